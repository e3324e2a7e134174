import java.util.Arrays;

/** A time bench: clocks, links between them, and the paper clock made of them hour by hour. */
public final class TimeBench {
    public static final int NONE = -1;
    public static final int WRONG = -2;

    private static final int PLACES = 24;
    private static final int LAST_HOUR = 200;

    private static final int CLOCK = 0;
    private static final int STEERED = 1;
    private static final int AGED = 2;
    private static final int SPARE = 3;
    private static final int WIRE = 4;
    private static final int AIR = 5;
    private static final int CARRIED = 6;
    private static final int LAMP = 7;

    private static final int MOST_READ = 10000;
    private static final int MOST_SET = 100000;
    private static final int MOST_OFF = 1000000;
    private static final int MOST_FORETOLD = 1000000000;
    private static final int MOST_MISSED = 30000;
    private static final int MOST_WEIGHT = 1000000;
    private static final int MOST_STEPS = 100;

    private static final int UNTOLD = 1000000;
    private static final int NOT_STEERED = 1000000;
    private static final int UNKNOWN = 2000000000;
    // Below every hour and every hour less one, so that it never looks like the hour ahead.
    private static final int NEVER = -10;

    private static final int X = 0;
    private static final int FORETOLD = 1;
    private static final int MISSED = 2;
    private static final int WEIGHT = 3;
    private static final int D = 4;
    private static final int CLOCK_ROWS = 5;

    private static final int ROOT = 0;
    private static final int PRESENT = 1;
    private static final int WEIGHT_SUM = 2;
    private static final int REST = 3;
    private static final int OFF_BEHIND = 4;
    private static final int PART_THEN = 5;
    private static final int PAPER_ROWS = 6;

    private final Shelf shelf = new Shelf();
    private final Told told = new Told();
    private final Steps steps = new Steps();
    private final Ways ways = new Ways(shelf);
    private final Foretelling foretelling = new Foretelling(told);
    private final Closing closing = new Closing(shelf, ways, told, foretelling, steps);
    private final int[] wayTold = new int[PLACES];
    private int wayLength = 0;
    private int now = 0;
    private int part = 40;
    private int times = 5;
    private int pace = 10;
    private int scaleOff = 0;

    public TimeBench() {
    }

    public int put(int p, int kind, int a, int b) {
        if (!isPlace(p) || shelf.kindAt(p) != NONE) {
            return NONE;
        }
        boolean laid = false;
        if (isClockKind(kind)) {
            laid = shelf.layClock(p, kind, a, b, now);
        } else if (isLinkKind(kind)) {
            laid = shelf.layLink(p, kind, a, b);
        } else if (kind == LAMP) {
            laid = shelf.layLamp(p);
        }
        return laid ? p : NONE;
    }

    public int lift(int p) {
        int lifted = shelf.kindAt(p);
        if (shelf.hasLinkOf(p)) {
            return WRONG;
        }
        shelf.empty(p);
        return lifted;
    }

    public int kind(int p) {
        return shelf.kindAt(p);
    }

    public int read(int p, int v) {
        Link link = shelf.linkAt(p);
        if (link == null) {
            return refusalAt(p);
        }
        if (!isWithin(v, MOST_READ)) {
            return NONE;
        }
        link.readThere(now, v);
        return 1;
    }

    public int back(int p, int v) {
        Link link = shelf.linkAt(p);
        if (link == null || link.kind != CARRIED) {
            return refusalAt(p);
        }
        if (!isWithin(v, MOST_READ)) {
            return NONE;
        }
        link.readBack(now, v);
        return 1;
    }

    public int tear(int p) {
        Link link = shelf.linkAt(p);
        return link == null ? refusalAt(p) : link.dropReadings();
    }

    public int way(int p, int v) {
        Link link = shelf.linkAt(p);
        if (link == null || link.kind != AIR) {
            return refusalAt(p);
        }
        if (!isWithin(v, MOST_READ)) {
            return NONE;
        }
        link.way = v;
        return 1;
    }

    public int tells(int p, int hour) {
        Link link = shelf.linkAt(p);
        if (link == null) {
            return refusalAt(p);
        }
        return hasCome(hour) ? link.toldAt(hour) : UNTOLD;
    }

    public int difference(int a, int b, int hour) {
        int refusal = refusalOfClocks(a, b);
        if (refusal != 0) {
            return refusal;
        }
        if (findWay(a, b, hour) == NONE) {
            return UNTOLD;
        }
        int lesserLessGreater = ways.sumTo(Math.max(a, b));
        return a <= b ? lesserLessGreater : -lesserLessGreater;
    }

    public int along(int a, int b, int hour) {
        int refusal = refusalOfClocks(a, b);
        if (refusal != 0) {
            return refusal;
        }
        int length = findWay(a, b, hour);
        wayLength = Math.max(0, length);
        ways.writeWay(Math.max(a, b), wayLength, a > b, wayTold);
        return length;
    }

    public int link(int i) {
        return i >= 0 && i < wayLength && i < wayTold.length ? wayTold[i] : NONE;
    }

    public int take(int p) {
        Clock clock = shelf.clockAt(p);
        if (clock == null) {
            return refusalAt(p);
        }
        clock.beginAnew(now);
        clock.taken = true;
        return 1;
    }

    public int leave(int p) {
        Clock clock = shelf.clockAt(p);
        if (clock == null) {
            return refusalAt(p);
        }
        boolean wasTaken = clock.taken;
        clock.taken = false;
        return wasTaken ? 1 : 0;
    }

    public int call(int p, boolean on) {
        Clock clock = shelf.clockAt(p);
        if (clock == null || clock.kind != SPARE) {
            return refusalAt(p);
        }
        clock.called = on;
        return 1;
    }

    public int steer(int p, int v) {
        Clock clock = shelf.clockAt(p);
        if (clock == null || !clock.isSteered()) {
            return refusalAt(p);
        }
        if (!isWithin(v, MOST_READ) || !isWithin(clock.setting + v, MOST_SET)) {
            return NOT_STEERED;
        }
        clock.setting += v;
        return clock.setting;
    }

    public boolean set(int what, int v) {
        if (what == 0 && v >= 1 && v <= 100) {
            part = v;
        } else if (what == 1 && v >= 2 && v <= 20) {
            times = v;
        } else if (what == 2 && v >= 0 && v <= 3599) {
            pace = v;
        } else {
            return false;
        }
        return true;
    }

    public int close() {
        if (now >= LAST_HOUR) {
            return NONE;
        }
        int present = closing.closeHour(now, part, times);
        moveScale();
        if (present > 0) {
            told.tellPaper(OFF_BEHIND, now, scaleOff);
        }
        now++;
        return present;
    }

    public int hour() {
        return now;
    }

    public int clock(int p, int what) {
        Clock clock = shelf.clockAt(p);
        if (clock == null) {
            return refusalAt(p);
        }
        switch (what) {
            case 0:
                return clock.isTaken() ? 1 : 0;
            case 1:
                return clock.out ? 1 : 0;
            case 2:
                return clock.suspectAt == now - 1 ? 1 : 0;
            case 3:
                return foretelling.countXs(clock, now);
            case 4:
                return clock.setting;
            case 5:
                return clock.span;
            case 6:
                return clock.reach;
            case 7:
                return clock.steps;
            case 8:
                return clock.drifts;
            default:
                return NONE;
        }
    }

    public int foretell(int p) {
        Clock clock = shelf.clockAt(p);
        return clock == null ? refusalAt(p) : foretelling.foretoldOf(clock, now);
    }

    public int slope(int p, int what) {
        Clock clock = shelf.clockAt(p);
        if (clock == null) {
            return refusalAt(p);
        }
        if (what != 0 && what != 1) {
            return NONE;
        }
        Line line = foretelling.lineOf(clock, now);
        if (line.count() == 0) {
            return UNKNOWN;
        }
        long answer = what == 0 ? line.slopeAbove() : line.slopeBelow();
        return cut(answer, MOST_FORETOLD);
    }

    public int weight(int p) {
        Clock clock = shelf.clockAt(p);
        if (clock == null) {
            return refusalAt(p);
        }
        return foretelling.fullWeightOf(clock, now, foretelling.foretoldOf(clock, now));
    }

    public int as(int hour, int p, int what) {
        if (what < 0 || what >= CLOCK_ROWS) {
            return NONE;
        }
        return hour < 0 || hour >= now || !isPlace(p) ? UNKNOWN : told.ofClock(what, hour, p);
    }

    public int paper(int hour, int what) {
        return told.ofPaper(what, hour);
    }

    public int step(int i, int what) {
        return steps.valueOf(i, what);
    }

    public boolean show(int v) {
        if (!isWithin(v, MOST_OFF)) {
            return false;
        }
        scaleOff = v;
        return true;
    }

    public int off() {
        return scaleOff;
    }

    public int ring(int a, int b, int c, int hour) {
        if (!hasCome(hour)) {
            return UNTOLD;
        }
        // A LINK is always of two unlike CLOCKS: three that TELL round the way are of three CLOCKS.
        int ab = shelf.toldBetween(a, b, hour);
        int bc = shelf.toldBetween(b, c, hour);
        int ca = shelf.toldBetween(c, a, hour);
        return ab == UNTOLD || bc == UNTOLD || ca == UNTOLD ? UNTOLD : ab + bc + ca;
    }

    /** Of how many LINKS the way of a and b is; it is found from the lesser PLACE on. */
    private int findWay(int a, int b, int hour) {
        if (!hasCome(hour)) {
            return NONE;
        }
        ways.spread(Math.min(a, b), hour);
        return ways.lengthTo(Math.max(a, b));
    }

    private void moveScale() {
        if (scaleOff > 0) {
            scaleOff = Math.max(0, scaleOff - pace);
        } else {
            scaleOff = Math.min(0, scaleOff + pace);
        }
    }

    private boolean hasCome(int hour) {
        return hour >= 0 && hour <= now;
    }

    /** What a call answers that found in p not what it wants. */
    private int refusalAt(int p) {
        return shelf.kindAt(p) == NONE ? NONE : WRONG;
    }

    private int refusalOfClocks(int a, int b) {
        if (shelf.clockAt(a) == null) {
            return refusalAt(a);
        }
        return shelf.clockAt(b) == null ? refusalAt(b) : 0;
    }

    private static boolean isPlace(int p) {
        return p >= 0 && p < PLACES;
    }

    private static boolean isClockKind(int kind) {
        return kind >= CLOCK && kind <= SPARE;
    }

    private static boolean isLinkKind(int kind) {
        return kind >= WIRE && kind <= CARRIED;
    }

    private static boolean isWithin(int v, int most) {
        return v >= -most && v <= most;
    }

    private static int cut(long v, int most) {
        return (int) Math.max(-most, Math.min(most, v));
    }

    private static final class Clock {
        final int place;
        int kind = CLOCK;
        int span = 2;
        int reach = 1;
        int setting = 0;
        boolean taken = false;
        boolean called = false;
        boolean out = false;
        /** X's and what was MISSED count from this hour on. */
        int since = 0;
        int suspectAt = NEVER;
        int steps = 0;
        int drifts = 0;

        Clock(int place) {
            this.place = place;
        }

        void lay(int newKind, int newSpan, int newReach, int hour) {
            kind = newKind;
            span = newSpan;
            reach = newReach;
            setting = 0;
            taken = false;
            called = false;
            steps = 0;
            drifts = 0;
            beginAnew(hour);
        }

        void beginAnew(int hour) {
            since = hour;
            out = false;
            suspectAt = NEVER;
        }

        boolean isTaken() {
            return taken && (kind != SPARE || called);
        }

        boolean isSteered() {
            return kind == STEERED || kind == SPARE;
        }
    }

    private static final class Link {
        // No READING reaches so far, so it can stand for none.
        private static final int UNREAD = 1000000;

        int kind = WIRE;
        int first = NONE;
        int second = NONE;
        int way = 0;
        private final int[] there = new int[LAST_HOUR + 1];
        private final int[] back = new int[LAST_HOUR + 1];

        void lay(int newKind, int newFirst, int newSecond) {
            kind = newKind;
            first = newFirst;
            second = newSecond;
            way = 0;
            dropReadings();
        }

        int dropReadings() {
            int hours = 0;
            for (int h = 0; h < there.length && h < back.length; h++) {
                if (there[h] != UNREAD || back[h] != UNREAD) {
                    hours++;
                }
                there[h] = UNREAD;
                back[h] = UNREAD;
            }
            return hours;
        }

        void readThere(int hour, int v) {
            if (hour >= 0 && hour < there.length) {
                there[hour] = v;
            }
        }

        void readBack(int hour, int v) {
            if (hour >= 0 && hour < back.length) {
                back[hour] = v;
            }
        }

        /** FIRST less SECOND. */
        int toldAt(int hour) {
            if (hour < 0 || hour >= there.length || hour >= back.length || there[hour] == UNREAD) {
                return UNTOLD;
            }
            if (kind == AIR) {
                return there[hour] - way;
            }
            if (kind == CARRIED) {
                return back[hour] == UNREAD ? UNTOLD : (there[hour] + back[hour]) / 8;
            }
            return there[hour];
        }

        int otherEndFrom(int p) {
            if (p == first) {
                return second;
            }
            return p == second ? first : NONE;
        }
    }

    /** What lies in the PLACES; its clocks and links are made once, and each put uses them again. */
    private static final class Shelf {
        private final int[] kinds = new int[PLACES];
        private final Clock[] clocks = new Clock[PLACES];
        private final Link[] links = new Link[PLACES];

        Shelf() {
            for (int p = 0; p < PLACES; p++) {
                kinds[p] = NONE;
                clocks[p] = new Clock(p);
                links[p] = new Link();
            }
        }

        int kindAt(int p) {
            return p >= 0 && p < kinds.length ? kinds[p] : NONE;
        }

        Clock clockAt(int p) {
            return p >= 0 && p < clocks.length && isClockKind(kindAt(p)) ? clocks[p] : null;
        }

        Link linkAt(int p) {
            return p >= 0 && p < links.length && isLinkKind(kindAt(p)) ? links[p] : null;
        }

        boolean layClock(int p, int kind, int span, int reach, int hour) {
            if (span < 2 || span > 12 || reach < 1 || reach > 12) {
                return false;
            }
            if (p < 0 || p >= kinds.length || p >= clocks.length || clocks[p] == null) {
                return false;
            }
            kinds[p] = kind;
            clocks[p].lay(kind, span, reach, hour);
            return true;
        }

        boolean layLink(int p, int kind, int first, int second) {
            if (first == second || clockAt(first) == null || clockAt(second) == null) {
                return false;
            }
            if (p < 0 || p >= kinds.length || p >= links.length || links[p] == null) {
                return false;
            }
            kinds[p] = kind;
            links[p].lay(kind, first, second);
            return true;
        }

        boolean layLamp(int p) {
            if (p < 0 || p >= kinds.length) {
                return false;
            }
            kinds[p] = LAMP;
            return true;
        }

        void empty(int p) {
            if (p >= 0 && p < kinds.length) {
                kinds[p] = NONE;
            }
        }

        boolean hasLinkOf(int p) {
            if (clockAt(p) == null) {
                return false;
            }
            for (int q = 0; q < PLACES; q++) {
                Link link = linkAt(q);
                if (link != null && (link.first == p || link.second == p)) {
                    return true;
                }
            }
            return false;
        }

        /** What the least PLACE that TELLS between a and b gives for a less b. */
        int toldBetween(int a, int b, int hour) {
            for (int p = 0; p < PLACES; p++) {
                Link link = linkAt(p);
                if (link == null || link.toldAt(hour) == UNTOLD) {
                    continue;
                }
                if (link.first == a && link.second == b) {
                    return link.toldAt(hour);
                }
                if (link.first == b && link.second == a) {
                    return -link.toldAt(hour);
                }
            }
            return UNTOLD;
        }
    }

    /** The ways from one CLOCK to all that LINKS lead to at an hour. */
    private static final class Ways {
        private final Shelf shelf;
        private final int[] queue = new int[PLACES];
        private final int[] lengths = new int[PLACES];
        private final int[] sums = new int[PLACES];
        private final int[] lastLinks = new int[PLACES];
        private final int[] ahead = new int[PLACES];
        private int queued = 0;

        Ways(Shelf shelf) {
            this.shelf = shelf;
        }

        // CLOCKS come into the queue in the order of their ways (the fewest LINKS, then the LINKS'
        // PLACES from the start on), so the first way that comes to a CLOCK is the one that counts.
        void spread(int from, int hour) {
            Arrays.fill(lengths, NONE);
            queued = 0;
            reach(from, 0, 0, NONE, NONE);
            for (int i = 0; i < queued && i < queue.length; i++) {
                spreadOn(queue[i], hour);
            }
        }

        private void spreadOn(int from, int hour) {
            for (int p = 0; p < PLACES; p++) {
                Link link = shelf.linkAt(p);
                if (link == null) {
                    continue;
                }
                int next = link.otherEndFrom(from);
                int told = link.toldAt(hour);
                if (next == NONE || told == UNTOLD || lengthTo(next) != NONE) {
                    continue;
                }
                int signed = link.first == from ? told : -told;
                reach(next, lengthTo(from) + 1, sumTo(from) + signed, p, from);
            }
        }

        private void reach(int p, int length, int sum, int link, int from) {
            if (p < 0 || p >= PLACES || queued >= PLACES) {
                return;
            }
            lengths[p] = length;
            sums[p] = sum;
            lastLinks[p] = link;
            ahead[p] = from;
            queue[queued] = p;
            queued++;
        }

        int lengthTo(int p) {
            return p >= 0 && p < lengths.length ? lengths[p] : NONE;
        }

        /** The start less p. */
        int sumTo(int p) {
            return p >= 0 && p < sums.length ? sums[p] : 0;
        }

        void writeWay(int to, int length, boolean turnedRound, int[] row) {
            int p = to;
            for (int i = 0; i < length && p >= 0 && p < PLACES; i++) {
                int at = turnedRound ? i : length - 1 - i;
                if (row != null && at >= 0 && at < row.length) {
                    row[at] = lastLinks[p];
                }
                p = ahead[p];
            }
        }
    }

    /** What is told of the hours that were CLOSED, whatever is lifted afterwards. */
    private static final class Told {
        private final int[][] clockRows = new int[CLOCK_ROWS][LAST_HOUR * PLACES];
        private final int[][] paperRows = new int[PAPER_ROWS][LAST_HOUR];

        Told() {
            for (int what = 0; what < CLOCK_ROWS; what++) {
                Arrays.fill(clockRows[what], what == WEIGHT ? 0 : UNKNOWN);
            }
            for (int what = 0; what < PAPER_ROWS; what++) {
                Arrays.fill(paperRows[what], NONE);
            }
        }

        void tell(int what, int hour, int p, int v) {
            if (what >= 0 && what < CLOCK_ROWS && hour >= 0 && hour < LAST_HOUR && p >= 0 && p < PLACES) {
                clockRows[what][hour * PLACES + p] = v;
            }
        }

        void tellPaper(int what, int hour, int v) {
            if (what >= 0 && what < PAPER_ROWS && hour >= 0 && hour < LAST_HOUR) {
                paperRows[what][hour] = v;
            }
        }

        int ofClock(int what, int hour, int p) {
            if (what < 0 || what >= CLOCK_ROWS || hour < 0 || hour >= LAST_HOUR || p < 0 || p >= PLACES) {
                return UNKNOWN;
            }
            return clockRows[what][hour * PLACES + p];
        }

        int ofPaper(int what, int hour) {
            if (what < 0 || what >= PAPER_ROWS || hour < 0 || hour >= LAST_HOUR) {
                return NONE;
            }
            return paperRows[what][hour];
        }
    }

    /** The first STEPS that were told. */
    private static final class Steps {
        private final int[] hours = new int[MOST_STEPS];
        private final int[] places = new int[MOST_STEPS];
        private final int[] misses = new int[MOST_STEPS];
        private int count = 0;

        void add(int hour, int p, int missed) {
            if (count < 0 || count >= MOST_STEPS) {
                return;
            }
            hours[count] = hour;
            places[count] = p;
            misses[count] = missed;
            count++;
        }

        int valueOf(int i, int what) {
            if (i < 0 || i >= count || i >= MOST_STEPS) {
                return NONE;
            }
            switch (what) {
                case 0:
                    return hours[i];
                case 1:
                    return places[i];
                case 2:
                    return misses[i];
                default:
                    return NONE;
            }
        }
    }

    /** The straight line with the least sum of squares; its hours are counted from the hour foretold. */
    private static final class Line {
        private int count = 0;
        private long sumT = 0;
        private long sumV = 0;
        private long sumTT = 0;
        private long sumTV = 0;

        void clear() {
            count = 0;
            sumT = 0;
            sumV = 0;
            sumTT = 0;
            sumTV = 0;
        }

        void add(long t, long v) {
            count++;
            sumT += t;
            sumV += v;
            sumTT += t * t;
            sumTV += t * v;
        }

        int count() {
            return count;
        }

        long valueAtZero() {
            long below = rawBelow();
            return below > 0 ? Math.floorDiv(sumV * sumTT - sumT * sumTV, below) : sumV;
        }

        long slopeAbove() {
            long divisor = divisorOfBoth();
            return divisor > 0 ? rawAbove() / divisor : 0;
        }

        long slopeBelow() {
            long divisor = divisorOfBoth();
            return divisor > 0 ? rawBelow() / divisor : 1;
        }

        private long rawAbove() {
            return count * sumTV - sumT * sumV;
        }

        // 0 of one point alone: this line is level.
        private long rawBelow() {
            return count * sumTT - sumT * sumT;
        }

        private long divisorOfBoth() {
            long a = rawBelow();
            if (a <= 0) {
                return 0;
            }
            long b = Math.abs(rawAbove());
            for (int i = 0; i < 200 && b != 0; i++) {
                long left = a % b;
                a = b;
                b = left;
            }
            return a;
        }
    }

    /** What a CLOCK's own past gives: what is FORETOLD of it, and its FULL WEIGHT. */
    private static final class Foretelling {
        private final Told told;
        private final Line xs = new Line();
        private final Line gains = new Line();
        private long base = 0;
        private int missedCount = 0;
        private long missedAmounts = 0;
        private long missedSquares = 0;

        Foretelling(Told told) {
            this.told = told;
        }

        int xOf(Clock clock, int hour) {
            return hour < clock.since ? UNKNOWN : told.ofClock(X, hour, clock.place);
        }

        int missedOf(Clock clock, int hour) {
            return hour < clock.since ? UNKNOWN : told.ofClock(MISSED, hour, clock.place);
        }

        int countXs(Clock clock, int hour) {
            int count = 0;
            for (int t = clock.since; t < hour; t++) {
                if (xOf(clock, t) != UNKNOWN) {
                    count++;
                }
            }
            return count;
        }

        /** The line that foretells the CLOCK at the hour; base is what its value comes on top of. */
        Line lineOf(Clock clock, int hour) {
            xs.clear();
            gains.clear();
            int ahead = UNKNOWN;
            for (int t = hour - clock.span; t < hour; t++) {
                int x = xOf(clock, t);
                if (x != UNKNOWN) {
                    xs.add(t - hour, x);
                }
                if (x != UNKNOWN && ahead != UNKNOWN) {
                    gains.add(t - hour, (long) x - ahead);
                }
                ahead = x;
            }
            boolean byGains = clock.kind == AGED && gains.count() >= 2 && ahead != UNKNOWN;
            base = byGains ? ahead : 0;
            return byGains ? gains : xs;
        }

        int foretoldOf(Clock clock, int hour) {
            Line line = lineOf(clock, hour);
            return line.count() == 0 ? UNKNOWN : cut(base + line.valueAtZero(), MOST_FORETOLD);
        }

        int fullWeightOf(Clock clock, int hour, int foretold) {
            if (foretold == UNKNOWN || clock.out) {
                return 0;
            }
            gatherMissed(clock, hour);
            if (missedCount == 0) {
                return 1;
            }
            long divisor = 1 + missedSquares;
            return divisor > 0 ? (int) Math.max(1, MOST_WEIGHT / divisor) : 1;
        }

        /** The mean amount, downwards. */
        long usuallyMissedBy(Clock clock, int hour) {
            gatherMissed(clock, hour);
            return missedCount > 0 ? missedAmounts / missedCount : 0;
        }

        private void gatherMissed(Clock clock, int hour) {
            missedCount = 0;
            missedAmounts = 0;
            missedSquares = 0;
            for (int t = Math.max(hour - clock.reach, clock.since); t < hour; t++) {
                int missed = told.ofClock(MISSED, t, clock.place);
                if (missed != UNKNOWN) {
                    missedCount++;
                    missedAmounts += Math.abs(missed);
                    missedSquares += (long) missed * missed;
                }
            }
        }

        boolean drifts(Clock clock, int hour) {
            for (int t = hour - 2; t <= hour; t++) {
                int earlier = missedOf(clock, t - 1);
                int later = missedOf(clock, t);
                if (earlier == UNKNOWN || later == UNKNOWN || !haveOneSign(earlier, later)
                        || Math.abs(later) <= Math.abs(earlier)) {
                    return false;
                }
            }
            return true;
        }

        static boolean haveOneSign(int a, int b) {
            return a > 0 && b > 0 || a < 0 && b < 0;
        }
    }

    /** An hour is CLOSED: the paper clock is made, then steps and drifts are looked for. */
    private static final class Closing {
        private final Shelf shelf;
        private final Ways ways;
        private final Told told;
        private final Foretelling foretelling;
        private final Steps steps;
        private final int[] fullWeights = new int[PLACES];
        private int present = 0;

        Closing(Shelf shelf, Ways ways, Told told, Foretelling foretelling, Steps steps) {
            this.shelf = shelf;
            this.ways = ways;
            this.told = told;
            this.foretelling = foretelling;
            this.steps = steps;
        }

        /** How many were PRESENT. */
        int closeHour(int hour, int part, int times) {
            present = 0;
            Clock root = leastTaken();
            if (root != null) {
                hold(root, hour);
                weigh(hour, part);
                tellXs(hour, makePaper(hour));
                judgeAll(hour, times);
                told.tellPaper(ROOT, hour, root.place);
                told.tellPaper(PRESENT, hour, present);
                told.tellPaper(PART_THEN, hour, part);
            }
            return present;
        }

        private Clock leastTaken() {
            for (int p = 0; p < PLACES; p++) {
                Clock clock = shelf.clockAt(p);
                if (clock != null && clock.isTaken()) {
                    return clock;
                }
            }
            return null;
        }

        /** D, FORETOLD and FULL WEIGHT of each that is PRESENT; only these have a D afterwards. */
        private void hold(Clock root, int hour) {
            ways.spread(root.place, hour);
            for (int p = 0; p < PLACES; p++) {
                fullWeights[p] = 0;
                Clock clock = shelf.clockAt(p);
                if (clock == null || !clock.isTaken() || ways.lengthTo(p) == NONE) {
                    continue;
                }
                int foretold = foretelling.foretoldOf(clock, hour);
                told.tell(FORETOLD, hour, p, foretold);
                told.tell(D, hour, p, -ways.sumTo(p) - clock.setting + root.setting);
                fullWeights[p] = foretelling.fullWeightOf(clock, hour, foretold);
                present++;
            }
        }

        private void weigh(int hour, int part) {
            long sum = 0;
            for (int p = 0; p < PLACES; p++) {
                sum += fullWeights[p];
            }
            long most = Math.max(1, part * sum / 100);
            for (int p = 0; p < PLACES; p++) {
                told.tell(WEIGHT, hour, p, (int) Math.min(fullWeights[p], most));
            }
        }

        /** X of ROOT. */
        private long makePaper(int hour) {
            long weights = 0;
            long sum = 0;
            for (int p = 0; p < PLACES; p++) {
                int weight = told.ofClock(WEIGHT, hour, p);
                int foretold = told.ofClock(FORETOLD, hour, p);
                if (foretold != UNKNOWN) {
                    weights += weight;
                    sum += weight * ((long) foretold + told.ofClock(D, hour, p));
                }
            }
            told.tellPaper(WEIGHT_SUM, hour, (int) weights);
            told.tellPaper(REST, hour, weights > 0 ? (int) Math.floorMod(sum, weights) : 0);
            return weights > 0 ? Math.floorDiv(sum, weights) : 0;
        }

        private void tellXs(int hour, long rootX) {
            for (int p = 0; p < PLACES; p++) {
                int d = told.ofClock(D, hour, p);
                if (d == UNKNOWN) {
                    continue;
                }
                long x = rootX - d;
                int foretold = told.ofClock(FORETOLD, hour, p);
                told.tell(X, hour, p, (int) x);
                if (foretold != UNKNOWN) {
                    told.tell(MISSED, hour, p, cut(x - foretold, MOST_MISSED));
                }
            }
        }

        private void judgeAll(int hour, int times) {
            for (int p = 0; p < PLACES; p++) {
                Clock clock = shelf.clockAt(p);
                int missed = told.ofClock(MISSED, hour, p);
                if (clock != null && !clock.out && missed != UNKNOWN) {
                    judge(clock, hour, missed, times);
                }
            }
        }

        private void judge(Clock clock, int hour, int missed, int times) {
            if (foretelling.drifts(clock, hour)) {
                clock.drifts++;
            }
            if (clock.suspectAt == hour - 1) {
                judgeSuspect(clock, hour, missed);
            } else if (Math.abs(missed) > times * (foretelling.usuallyMissedBy(clock, hour) + 1)) {
                clock.suspectAt = hour;
            }
        }

        private void judgeSuspect(Clock clock, int hour, int missed) {
            int before = foretelling.missedOf(clock, hour - 1);
            boolean stays = Foretelling.haveOneSign(before, missed)
                    && Math.abs(missed) >= (Math.abs(before) + 1) / 2;
            if (before != UNKNOWN && stays) {
                clock.out = true;
                clock.steps++;
                steps.add(hour - 1, clock.place, before);
            }
        }
    }
}

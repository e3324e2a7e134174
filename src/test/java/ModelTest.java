import java.math.BigInteger;
import java.util.ArrayList;
import java.util.HashMap;
import java.util.List;
import java.util.Map;
import java.util.Random;
import java.util.TreeMap;

/**
 * Holds TimeBench against a second, slow reading of the document (all ways tried one by one, exact
 * sums of any size, maps instead of rows) in runs of calls from fixed seeds.
 */
public final class ModelTest {
    private static final int NONE = -1;
    private static final int WRONG = -2;
    private static final int UNTOLD = 1000000;
    private static final int UNKNOWN = 2000000000;

    private static final class Thing {
        int kind;
        int a;
        int b;
        boolean taken;
        boolean called;
        boolean out;
        int setting;
        int steps;
        int drifts;
        int way;
        TreeMap<Integer, Integer> xs = new TreeMap<>();
        TreeMap<Integer, Integer> missed = new TreeMap<>();
        TreeMap<Integer, Boolean> suspect = new TreeMap<>();
        TreeMap<Integer, Integer> there = new TreeMap<>();
        TreeMap<Integer, Integer> back = new TreeMap<>();

        boolean isClock() {
            return kind <= 3;
        }

        boolean isLink() {
            return kind >= 4 && kind <= 6;
        }

        boolean counts() {
            return taken && (kind != 3 || called);
        }

        Integer told(int hour) {
            Integer t = there.get(hour);
            Integer k = back.get(hour);
            switch (kind) {
                case 4:
                    return t;
                case 5:
                    return t == null ? null : Integer.valueOf(t - way);
                default:
                    return t == null || k == null ? null : Integer.valueOf((t + k) / 4 / 2);
            }
        }
    }

    private static final class Model {
        final Map<Integer, Thing> bench = new HashMap<>();
        final Map<String, Integer> told = new HashMap<>();
        final Map<String, Integer> papers = new HashMap<>();
        final List<int[]> steps = new ArrayList<>();
        List<Integer> latestWay = new ArrayList<>();
        int hour = 0;
        int part = 40;
        int times = 5;
        int pace = 10;
        int off = 0;
        // Set by line().
        BigInteger above;
        BigInteger below;
        BigInteger value;

        boolean isClock(int p) {
            return bench.containsKey(p) && bench.get(p).isClock();
        }

        boolean isLink(int p) {
            return bench.containsKey(p) && bench.get(p).isLink();
        }

        int no(int p) {
            return bench.containsKey(p) ? WRONG : NONE;
        }

        int put(int p, int kind, int a, int b) {
            boolean good = p >= 0 && p <= 23 && !bench.containsKey(p) && kind >= 0 && kind <= 7;
            if (good && kind <= 3) {
                good = a >= 2 && a <= 12 && b >= 1 && b <= 12;
            } else if (good && kind <= 6) {
                good = a != b && isClock(a) && isClock(b);
            }
            if (!good) {
                return NONE;
            }
            Thing t = new Thing();
            t.kind = kind;
            t.a = a;
            t.b = b;
            bench.put(p, t);
            return p;
        }

        int lift(int p) {
            if (!bench.containsKey(p)) {
                return NONE;
            }
            for (Thing t : bench.values()) {
                if (t.isLink() && (t.a == p || t.b == p)) {
                    return WRONG;
                }
            }
            return bench.remove(p).kind;
        }

        int reading(int p, int v, boolean there) {
            if (!isLink(p) || !there && bench.get(p).kind != 6) {
                return no(p);
            }
            if (Math.abs((long) v) > 10000) {
                return NONE;
            }
            (there ? bench.get(p).there : bench.get(p).back).put(hour, v);
            return 1;
        }

        int tear(int p) {
            if (!isLink(p)) {
                return no(p);
            }
            Thing t = bench.get(p);
            Map<Integer, Integer> all = new HashMap<>(t.there);
            all.putAll(t.back);
            t.there.clear();
            t.back.clear();
            return all.size();
        }

        int way(int p, int v) {
            if (!isLink(p) || bench.get(p).kind != 5) {
                return no(p);
            }
            if (Math.abs((long) v) > 10000) {
                return NONE;
            }
            bench.get(p).way = v;
            return 1;
        }

        int tells(int p, int h) {
            if (!isLink(p)) {
                return no(p);
            }
            Integer t = h < 0 || h > hour ? null : bench.get(p).told(h);
            return t == null ? UNTOLD : t;
        }

        void allWays(int at, int to, int h, List<Integer> seen, List<Integer> links, List<List<Integer>> found) {
            if (at == to) {
                found.add(new ArrayList<>(links));
                return;
            }
            for (int p = 0; p < 24; p++) {
                Thing t = bench.get(p);
                if (t == null || !t.isLink() || t.a != at && t.b != at || t.told(h) == null) {
                    continue;
                }
                int next = t.a == at ? t.b : t.a;
                if (seen.contains(next)) {
                    continue;
                }
                seen.add(next);
                links.add(p);
                allWays(next, to, h, seen, links, found);
                links.remove(links.size() - 1);
                seen.remove(seen.size() - 1);
            }
        }

        static boolean isBefore(List<Integer> w, List<Integer> v) {
            if (w.size() != v.size()) {
                return w.size() < v.size();
            }
            for (int i = 0; i < w.size(); i++) {
                if (!w.get(i).equals(v.get(i))) {
                    return w.get(i) < v.get(i);
                }
            }
            return false;
        }

        /** From the lesser PLACE on; null without one. */
        List<Integer> bestWay(int a, int b, int h) {
            if (h < 0 || h > hour) {
                return null;
            }
            List<List<Integer>> found = new ArrayList<>();
            List<Integer> seen = new ArrayList<>();
            seen.add(Math.min(a, b));
            allWays(Math.min(a, b), Math.max(a, b), h, seen, new ArrayList<>(), found);
            List<Integer> best = null;
            for (List<Integer> w : found) {
                if (best == null || isBefore(w, best)) {
                    best = w;
                }
            }
            return best;
        }

        Integer diff(int a, int b, int h) {
            List<Integer> w = bestWay(a, b, h);
            if (w == null) {
                return null;
            }
            int at = Math.min(a, b);
            int sum = 0;
            for (int p : w) {
                Thing t = bench.get(p);
                sum += t.a == at ? t.told(h) : -t.told(h);
                at = t.a == at ? t.b : t.a;
            }
            return a <= b ? sum : -sum;
        }

        int difference(int a, int b, int h) {
            if (!isClock(a)) {
                return no(a);
            }
            if (!isClock(b)) {
                return no(b);
            }
            Integer d = diff(a, b, h);
            return d == null ? UNTOLD : d;
        }

        int along(int a, int b, int h) {
            if (!isClock(a)) {
                return no(a);
            }
            if (!isClock(b)) {
                return no(b);
            }
            List<Integer> w = bestWay(a, b, h);
            latestWay = new ArrayList<>();
            if (w == null) {
                return NONE;
            }
            for (int p : w) {
                latestWay.add(a <= b ? latestWay.size() : 0, p);
            }
            return w.size();
        }

        int link(int i) {
            return i >= 0 && i < latestWay.size() ? latestWay.get(i) : NONE;
        }

        int take(int p) {
            if (!isClock(p)) {
                return no(p);
            }
            Thing t = bench.get(p);
            t.taken = true;
            t.out = false;
            t.xs.clear();
            t.missed.clear();
            t.suspect.clear();
            return 1;
        }

        int leave(int p) {
            if (!isClock(p)) {
                return no(p);
            }
            int was = bench.get(p).taken ? 1 : 0;
            bench.get(p).taken = false;
            return was;
        }

        int call(int p, boolean on) {
            if (!isClock(p) || bench.get(p).kind != 3) {
                return no(p);
            }
            bench.get(p).called = on;
            return 1;
        }

        int steer(int p, int v) {
            if (!isClock(p) || bench.get(p).kind % 2 == 0) {
                return no(p);
            }
            Thing t = bench.get(p);
            if (v < -10000 || v > 10000 || Math.abs(t.setting + v) > 100000) {
                return UNTOLD;
            }
            t.setting += v;
            return t.setting;
        }

        boolean set(int what, int v) {
            if (what == 0 && 1 <= v && v <= 100) {
                part = v;
                return true;
            }
            if (what == 1 && 2 <= v && v <= 20) {
                times = v;
                return true;
            }
            if (what == 2 && 0 <= v && v <= 3599) {
                pace = v;
                return true;
            }
            return false;
        }

        static BigInteger floor(BigInteger a, BigInteger b) {
            BigInteger[] both = a.divideAndRemainder(b);
            return both[1].signum() < 0 ? both[0].subtract(BigInteger.ONE) : both[0];
        }

        /** Through the points' middle; the hours as they are. */
        void line(TreeMap<Integer, Long> points, int h) {
            BigInteger n = BigInteger.valueOf(points.size());
            BigInteger t1 = BigInteger.ZERO;
            BigInteger v1 = BigInteger.ZERO;
            for (Map.Entry<Integer, Long> e : points.entrySet()) {
                t1 = t1.add(BigInteger.valueOf(e.getKey()));
                v1 = v1.add(BigInteger.valueOf(e.getValue()));
            }
            BigInteger up = BigInteger.ZERO;
            BigInteger down = BigInteger.ZERO;
            for (Map.Entry<Integer, Long> e : points.entrySet()) {
                BigInteger dt = n.multiply(BigInteger.valueOf(e.getKey())).subtract(t1);
                BigInteger dv = n.multiply(BigInteger.valueOf(e.getValue())).subtract(v1);
                up = up.add(dt.multiply(dv));
                down = down.add(dt.multiply(dt));
            }
            if (down.signum() == 0) {
                down = BigInteger.ONE;
            }
            BigInteger g = up.gcd(down);
            above = up.divide(g);
            below = down.divide(g);
            BigInteger dh = n.multiply(BigInteger.valueOf(h)).subtract(t1);
            value = floor(v1.multiply(below).add(above.multiply(dh)), n.multiply(below));
        }

        Integer foretold(Thing c, int h) {
            TreeMap<Integer, Long> xs = new TreeMap<>();
            TreeMap<Integer, Long> gains = new TreeMap<>();
            for (int t = h - c.a; t < h; t++) {
                if (c.xs.containsKey(t)) {
                    xs.put(t, (long) c.xs.get(t));
                }
            }
            for (int t : xs.keySet()) {
                if (xs.containsKey(t - 1)) {
                    gains.put(t, xs.get(t) - xs.get(t - 1));
                }
            }
            if (xs.isEmpty()) {
                return null;
            }
            if (c.kind == 2 && gains.size() >= 2 && xs.containsKey(h - 1)) {
                line(gains, h);
                value = value.add(BigInteger.valueOf(xs.get(h - 1)));
            } else {
                line(xs, h);
            }
            return bound(value, 1000000000);
        }

        static int bound(BigInteger v, int most) {
            return v.min(BigInteger.valueOf(most)).max(BigInteger.valueOf(-most)).intValue();
        }

        int full(Thing c, int h) {
            if (c.out || foretold(c, h) == null) {
                return 0;
            }
            long squares = 1;
            Map<Integer, Integer> window = c.missed.subMap(h - c.b, h);
            for (int m : window.values()) {
                squares += (long) m * m;
            }
            return window.isEmpty() ? 1 : (int) Math.max(1, 1000000 / squares);
        }

        int close() {
            if (hour == 200) {
                return NONE;
            }
            int h = hour;
            int root = -1;
            for (int p = 23; p >= 0; p--) {
                if (isClock(p) && bench.get(p).counts()) {
                    root = p;
                }
            }
            off -= Integer.signum(off) * Math.min(pace, Math.abs(off));
            int present = root < 0 ? 0 : closeWith(root, h);
            hour++;
            return present;
        }

        int closeWith(int root, int h) {
            TreeMap<Integer, Integer> ds = new TreeMap<>();
            TreeMap<Integer, Integer> fulls = new TreeMap<>();
            long fullSum = 0;
            for (int p = 0; p < 24; p++) {
                Integer d = isClock(p) && bench.get(p).counts() ? diff(p, root, h) : null;
                if (d != null) {
                    ds.put(p, d - bench.get(p).setting + bench.get(root).setting);
                    fulls.put(p, full(bench.get(p), h));
                    fullSum += fulls.get(p);
                }
            }
            long weights = 0;
            BigInteger sum = BigInteger.ZERO;
            for (int p : ds.keySet()) {
                long w = Math.min(fulls.get(p), Math.max(1, fullSum * part / 100));
                told.put(h + " " + p + " 3", (int) w);
                weights += w;
                if (w > 0) {
                    long f = foretold(bench.get(p), h);
                    sum = sum.add(BigInteger.valueOf(w).multiply(BigInteger.valueOf(f + ds.get(p))));
                }
            }
            BigInteger x = weights == 0 ? BigInteger.ZERO : floor(sum, BigInteger.valueOf(weights));
            BigInteger rest = weights == 0 ? BigInteger.ZERO : sum.subtract(x.multiply(BigInteger.valueOf(weights)));
            for (int p : ds.keySet()) {
                tellX(p, h, x.subtract(BigInteger.valueOf(ds.get(p))).longValueExact());
                told.put(h + " " + p + " 4", ds.get(p));
            }
            int[] paper = {root, ds.size(), (int) weights, rest.intValueExact(), off, part};
            for (int i = 0; i < paper.length; i++) {
                papers.put(h + " " + i, paper[i]);
            }
            return ds.size();
        }

        void tellX(int p, int h, long x) {
            Thing c = bench.get(p);
            Integer f = foretold(c, h);
            told.put(h + " " + p + " 0", (int) x);
            c.xs.put(h, (int) x);
            if (f == null) {
                return;
            }
            int m = (int) Math.max(-30000, Math.min(30000, x - f));
            told.put(h + " " + p + " 1", f);
            told.put(h + " " + p + " 2", m);
            long amounts = 0;
            Map<Integer, Integer> window = c.missed.subMap(h - c.b, h);
            for (int before : window.values()) {
                amounts += Math.abs(before);
            }
            long a = window.isEmpty() ? 0 : amounts / window.size();
            c.missed.put(h, m);
            if (c.out) {
                return;
            }
            if (isDrift(c, h)) {
                c.drifts++;
            }
            if (!c.suspect.containsKey(h - 1)) {
                if (Math.abs(m) > times * (a + 1)) {
                    c.suspect.put(h, true);
                }
                return;
            }
            int before = c.missed.get(h - 1);
            if (Integer.signum(before) == Integer.signum(m) && 2 * Math.abs(m) >= Math.abs(before)) {
                c.out = true;
                c.steps++;
                steps.add(new int[] {h - 1, p, before});
            }
        }

        static boolean isDrift(Thing c, int h) {
            int last = 0;
            int sign = Integer.signum(c.missed.getOrDefault(h, 0));
            for (int t = h - 3; t <= h; t++) {
                Integer m = c.missed.get(t);
                if (m == null || m * sign <= last) {
                    return false;
                }
                last = m * sign;
            }
            return true;
        }

        int clock(int p, int what) {
            if (!isClock(p)) {
                return no(p);
            }
            Thing c = bench.get(p);
            int[] all = {c.counts() ? 1 : 0, c.out ? 1 : 0, c.suspect.containsKey(hour - 1) ? 1 : 0, c.xs.size(),
                c.setting, c.a, c.b, c.steps, c.drifts};
            return what >= 0 && what < all.length ? all[what] : NONE;
        }

        int foretell(int p) {
            Integer f = isClock(p) ? foretold(bench.get(p), hour) : Integer.valueOf(no(p));
            return f == null ? UNKNOWN : f;
        }

        int slope(int p, int what) {
            if (!isClock(p)) {
                return no(p);
            }
            if (what < 0 || what > 1) {
                return NONE;
            }
            if (foretold(bench.get(p), hour) == null) {
                return UNKNOWN;
            }
            return bound(what == 0 ? above : below, 1000000000);
        }

        int weight(int p) {
            return isClock(p) ? full(bench.get(p), hour) : no(p);
        }

        int as(int h, int p, int what) {
            if (what < 0 || what > 4) {
                return NONE;
            }
            boolean isNone = h < 0 || h >= hour || p < 0 || p > 23;
            return told.getOrDefault(h + " " + p + " " + what, what == 3 && !isNone ? 0 : UNKNOWN);
        }

        int paper(int h, int what) {
            return papers.getOrDefault(h + " " + what, NONE);
        }

        int step(int i, int what) {
            boolean kept = i >= 0 && i < Math.min(100, steps.size()) && what >= 0 && what <= 2;
            return kept ? steps.get(i)[what] : NONE;
        }

        boolean show(int v) {
            if (v < -1000000 || v > 1000000) {
                return false;
            }
            off = v;
            return true;
        }

        Integer oneLink(int a, int b, int h) {
            for (int p = 0; p < 24; p++) {
                Thing t = bench.get(p);
                if (t != null && t.isLink() && t.told(h) != null) {
                    if (t.a == a && t.b == b) {
                        return t.told(h);
                    }
                    if (t.a == b && t.b == a) {
                        return -t.told(h);
                    }
                }
            }
            return null;
        }

        int ring(int a, int b, int c, int h) {
            if (h < 0 || h > hour || !isClock(a) || !isClock(b) || !isClock(c) || a == b || b == c || a == c) {
                return UNTOLD;
            }
            Integer ab = oneLink(a, b, h);
            Integer bc = oneLink(b, c, h);
            Integer ca = oneLink(c, a, h);
            return ab == null || bc == null || ca == null ? UNTOLD : ab + bc + ca;
        }
    }

    /** One run: a bench, its model, and the calls so far. */
    private static final class Run {
        final TimeBench x = new TimeBench();
        final Model m = new Model();
        final Random random;
        final List<String> calls = new ArrayList<>();
        boolean failed = false;

        Run(long seed) {
            random = new Random(seed);
        }

        boolean goesOn() {
            return !failed && calls.size() < 512;
        }

        int due(String call, int got, int want) {
            calls.add(call + " -> " + got);
            if (got != want && calls.size() <= 512) {
                failed = true;
                System.out.println("call " + calls.size() + ": " + call + " answered " + got + ", the model " + want);
            }
            return got;
        }

        int some(int n) {
            return random.nextInt(n);
        }

        int near(int most) {
            return some(2 * most + 1) - most;
        }

        int place() {
            return some(40) == 0 ? odd() : some(24);
        }

        int pastHour() {
            return some(15) == 0 ? odd() : Math.max(0, m.hour - some(6));
        }

        int odd() {
            int[] odds = {-1, 24, 200, 201, -2, Integer.MIN_VALUE, Integer.MAX_VALUE, m.hour + 1};
            return odds[some(odds.length)];
        }

        int value() {
            int[] edges = {0, 10000, -10000, 10001, -10001, Integer.MIN_VALUE, Integer.MAX_VALUE};
            int pick = some(30);
            return pick == 0 ? edges[some(edges.length)] : pick < 6 ? near(10000) : pick < 12 ? near(400) : near(20);
        }

        void put(int p, int k, int a, int b) {
            due("put(" + p + ", " + k + ", " + a + ", " + b + ")", x.put(p, k, a, b), m.put(p, k, a, b));
        }

        void read(int p, int v) {
            due("read(" + p + ", " + v + ")", x.read(p, v), m.reading(p, v, true));
        }

        void back(int p, int v) {
            due("back(" + p + ", " + v + ")", x.back(p, v), m.reading(p, v, false));
        }

        void take(int p) {
            due("take(" + p + ")", x.take(p), m.take(p));
        }

        void close() {
            due("close()", x.close(), m.close());
        }

        void change() {
            int p = place();
            int v = value();
            boolean on = some(4) > 0;
            switch (some(12)) {
                case 0:
                    put(p, some(9) - (some(20) == 0 ? 1 : 0), some(14), some(14));
                    break;
                case 1:
                    put(p, 4 + some(3), place(), place());
                    break;
                case 2:
                    due("lift(" + p + ")", x.lift(p), m.lift(p));
                    break;
                case 3:
                    due("tear(" + p + ")", x.tear(p), m.tear(p));
                    break;
                case 4:
                    due("way(" + p + ", " + v + ")", x.way(p, v), m.way(p, v));
                    break;
                case 5:
                    take(p);
                    break;
                case 6:
                    due("leave(" + p + ")", x.leave(p), m.leave(p));
                    break;
                case 7:
                    due("call(" + p + ", " + on + ")", x.call(p, on), m.call(p, on));
                    break;
                case 8:
                    due("steer(" + p + ", " + v + ")", x.steer(p, v), m.steer(p, v));
                    break;
                case 9:
                    int what = some(5) - 1;
                    int to = some(8) == 0 ? value() : some(what == 2 ? 4000 : what == 1 ? 24 : 110);
                    due("set(" + what + ", " + to + ")", x.set(what, to) ? 1 : 0, m.set(what, to) ? 1 : 0);
                    break;
                case 10:
                    int show = some(10) == 0 ? near(1000003) : value();
                    due("show(" + show + ")", x.show(show) ? 1 : 0, m.show(show) ? 1 : 0);
                    break;
                default:
                    due("back(" + p + ", " + v + ")", x.back(p, v), m.reading(p, v, false));
            }
        }

        void ask() {
            int p = place();
            int q = place();
            int h = pastHour();
            int what = some(11) - 1;
            switch (some(16)) {
                case 0:
                    due("kind(" + p + ")", x.kind(p), m.bench.containsKey(p) ? m.bench.get(p).kind : NONE);
                    break;
                case 1:
                    due("tells(" + p + ", " + h + ")", x.tells(p, h), m.tells(p, h));
                    break;
                case 2:
                    due("difference(" + p + ", " + q + ", " + h + ")", x.difference(p, q, h), m.difference(p, q, h));
                    break;
                case 3:
                    askWay(p, q, h);
                    break;
                case 4:
                    due("clock(" + p + ", " + what + ")", x.clock(p, what), m.clock(p, what));
                    break;
                case 5:
                    due("foretell(" + p + ")", x.foretell(p), m.foretell(p));
                    break;
                case 6:
                    due("slope(" + p + ", 0)", x.slope(p, 0), m.slope(p, 0));
                    due("slope(" + p + ", 1)", x.slope(p, 1), m.slope(p, 1));
                    break;
                case 7:
                    due("slope(" + p + ", " + what + ")", x.slope(p, what), m.slope(p, what));
                    break;
                case 8:
                    due("weight(" + p + ")", x.weight(p), m.weight(p));
                    break;
                case 9:
                case 10:
                    int w = some(7) - 1;
                    due("as(" + h + ", " + p + ", " + w + ")", x.as(h, p, w), m.as(h, p, w));
                    break;
                case 11:
                    int v = some(8) - 1;
                    due("paper(" + h + ", " + v + ")", x.paper(h, v), m.paper(h, v));
                    break;
                case 12:
                    int i = some(6) == 0 ? odd() : some(m.steps.size() + 2);
                    int u = some(5) - 1;
                    due("step(" + i + ", " + u + ")", x.step(i, u), m.step(i, u));
                    break;
                case 13:
                    due("off()", x.off(), m.off);
                    break;
                case 14:
                    due("hour()", x.hour(), m.hour);
                    break;
                default:
                    int r = place();
                    due("ring(" + p + ", " + q + ", " + r + ", " + h + ")", x.ring(p, q, r, h), m.ring(p, q, r, h));
            }
        }

        void askWay(int a, int b, int h) {
            int n = due("along(" + a + ", " + b + ", " + h + ")", x.along(a, b, h), m.along(a, b, h));
            for (int i = -1; i <= n; i++) {
                due("link(" + i + ")", x.link(i), m.link(i));
            }
        }

        /** Everything of the latest hour. */
        void askAll() {
            for (int p = 0; p < 24 && goesOn(); p++) {
                if (m.isClock(p)) {
                    for (int what = 0; what < 5; what++) {
                        due("as of " + p, x.as(m.hour - 1, p, what), m.as(m.hour - 1, p, what));
                    }
                    due("foretell(" + p + ")", x.foretell(p), m.foretell(p));
                    due("clock(" + p + ", 7)", x.clock(p, 7), m.clock(p, 7));
                    due("clock(" + p + ", 8)", x.clock(p, 8), m.clock(p, 8));
                }
            }
        }
    }

    /** Calls of any kind with any arguments. */
    private static void chaos(Run r) {
        int clocks = 2 + r.some(8);
        for (int p = 0; p < clocks; p++) {
            r.put(p, r.some(4), 2 + r.some(11), 1 + r.some(12));
            r.take(p);
        }
        while (r.goesOn()) {
            int pick = r.some(10);
            if (pick < 3) {
                r.change();
            } else if (pick < 6) {
                r.read(r.place(), r.value());
            } else if (pick < 7) {
                r.close();
            } else {
                r.ask();
            }
        }
    }

    /** Clocks that run off by rates of their own, with jumps now and then, read nearly every hour. */
    private static void steady(Run r) {
        int clocks = 2 + r.some(5);
        int links = clocks - 1 + r.some(4);
        int noise = r.some(3) == 0 ? 0 : r.some(12);
        int[] at = new int[24];
        int[] rate = new int[24];
        int[] speed = new int[24];
        for (int p = 0; p < clocks; p++) {
            r.put(p, r.some(4), 2 + r.some(11), 1 + r.some(12));
            r.take(p);
            r.due("call(" + p + ", true)", r.x.call(p, true), r.m.call(p, true));
            rate[p] = r.near(10);
            speed[p] = r.some(3) == 0 ? r.near(4) : 0;
        }
        for (int i = 0; i < links; i++) {
            int b = i + 1 < clocks ? i + 1 : r.some(clocks);
            r.put(clocks + i, 4 + r.some(3), r.some(Math.max(1, Math.min(b, clocks))), b);
        }
        while (r.goesOn()) {
            for (int p = 0; p < clocks; p++) {
                rate[p] += r.some(2) * speed[p];
                at[p] += rate[p] + (r.some(15) == 0 ? r.near(600) : 0);
            }
            for (int p = clocks; p < clocks + links && r.goesOn(); p++) {
                Thing t = r.m.bench.get(p);
                if (t == null || !t.isLink() || r.some(12) == 0) {
                    continue;
                }
                int v = Math.max(-2500, Math.min(2500, at[t.a] - at[t.b] + r.near(noise)));
                r.read(p, t.kind == 6 ? 4 * v : v);
                if (t.kind == 6) {
                    r.back(p, 4 * v + r.near(3));
                }
            }
            if (r.some(6) == 0) {
                r.change();
            }
            r.close();
            for (int p = 0; p < clocks; p++) {
                if (r.m.clock(p, 1) == 1 && r.some(3) == 0) {
                    r.take(p);
                }
            }
            if (r.some(4) == 0) {
                r.askAll();
            }
            r.ask();
        }
    }

    /** An AGED clock is thrown, left alone, and runs off beyond what FORETOLD may be. */
    private static void runaway(Run r) {
        r.put(0, 1, 2, 1);
        r.put(1, 2, 3 + r.some(10), 1);
        r.put(2, 5, 0, 1);
        r.take(0);
        r.take(1);
        int sign = r.some(2) == 0 ? 1 : -1;
        for (int h = 0; h < 2; h++) {
            r.read(2, 0);
            r.close();
        }
        for (int i = 0; i < 10; i++) {
            r.due("steer(0, ..)", r.x.steer(0, -10000 * sign), r.m.steer(0, -10000 * sign));
        }
        r.due("way(2, ..)", r.x.way(2, -10000 * sign), r.m.way(2, -10000 * sign));
        r.read(2, 10000 * sign);
        r.close();
        r.due("leave(0)", r.x.leave(0), r.m.leave(0));
        int last = r.some(2) == 0 ? 198 : 100 + r.some(60);
        int gap = last - 1 - r.some(12);
        while (r.goesOn() && r.m.hour < last) {
            // An hour without X, so that the line of the X's is used in the end.
            boolean stays = last == 198 || r.m.hour != gap;
            if (!stays) {
                r.due("leave(1)", r.x.leave(1), r.m.leave(1));
            }
            r.close();
            r.due("foretell(1)", r.x.foretell(1), r.m.foretell(1));
            r.due("slope(1, 0)", r.x.slope(1, 0), r.m.slope(1, 0));
            reached = Math.max(reached, Math.abs((long) r.m.foretell(1)));
            steepest = Math.max(steepest, Math.abs((long) r.m.slope(1, 0)));
        }
        r.askAll();
    }

    private static long steepest = 0;
    private static long reached = 0;

    public static void main(String[] args) {
        int runs = args.length > 0 ? Integer.parseInt(args[0]) : 1500;
        int wrong = 0;
        int steps = 0;
        int drifts = 0;
        for (int seed = 0; seed < runs && wrong < 5; seed++) {
            Run r = new Run(seed);
            if (seed % 20 == 0) {
                runaway(r);
            } else if (seed % 3 == 0) {
                chaos(r);
            } else {
                steady(r);
            }
            steps += r.m.steps.size();
            for (Thing t : r.m.bench.values()) {
                drifts += t.drifts;
            }
            if (r.failed) {
                wrong++;
                System.out.println("in the run of seed " + seed + ": " + r.calls);
            }
        }
        // A generator that never comes to these would hold nothing against the model.
        if (runs >= 1500 && (steps < 100 || drifts < 20 || reached < 1000000000 || steepest < 1000000000)) {
            wrong++;
            System.out.println("too tame: " + steps + " steps, " + drifts + " drifts, foretold up to " + reached);
        }
        System.out.println("ModelTest: " + runs + " runs, " + steps + " steps, " + drifts + " drifts, " + wrong + " wrong");
        if (wrong != 0) {
            System.exit(1);
        }
    }
}

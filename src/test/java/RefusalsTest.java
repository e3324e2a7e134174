/**
 * "A call of a PLACE in which something else lies than it wants answers WRONG (-2), of nothing, or no
 * PLACE, NONE; both change nothing." Each call is made on a bench with a past, and a twin without the call
 * must answer everything afterwards as the bench does.
 */
public final class RefusalsTest {
    private static final int NONE = -1;
    private static final int WRONG = -2;
    private static final int UNTOLD = 1000000;

    private static final int PLAIN = 0;
    private static final int STEERED = 1;
    private static final int AGED = 2;
    private static final int SPARE = 3;
    private static final int WIRE = 4;
    private static final int AIR = 5;
    private static final int CARRIED = 6;
    private static final int LAMP = 7;
    private static final int EMPTY = 8;
    private static final int[] NO_PLACES = {-1, 24, Integer.MIN_VALUE, Integer.MAX_VALUE, -2000000000};

    private static int asked = 0;
    private static int wrong = 0;

    /** A call whose argument is a PLACE; the other arguments stand in it. */
    private interface Call {
        int of(TimeBench x, int p);
    }

    private static void due(String call, int got, int want) {
        asked++;
        if (got != want) {
            wrong++;
            System.out.println(call + " answered " + got + ", due is " + want);
        }
    }

    /** In each PLACE 0 .. 7 lies its own KIND; the LINKS are of 0 and 1. */
    private static TimeBench bench() {
        TimeBench x = new TimeBench();
        for (int p = 0; p <= 3; p++) {
            x.put(p, p, 2, 3);
            x.take(p);
        }
        x.call(3, true);
        for (int p = 4; p <= 7; p++) {
            x.put(p, p, 0, 1);
        }
        x.way(5, 3);
        x.steer(1, 40);
        x.steer(3, -7);
        x.show(500);
        for (int h = 0; h < 3; h++) {
            x.read(4, 12 * h * h);
            x.read(5, h);
            x.read(6, 16);
            x.back(6, 80);
            x.close();
        }
        x.read(4, 5);
        x.read(6, 8);
        x.along(0, 1, 0);
        return x;
    }

    /** All that can be asked of a bench, and two hours more. */
    private static int[] answers(TimeBench x) {
        int[] row = new int[400];
        int n = 0;
        for (int i = 0; i < 3; i++) {
            row[n++] = x.link(i);
        }
        row[n++] = x.hour();
        row[n++] = x.off();
        for (int p = 0; p <= 9; p++) {
            row[n++] = x.kind(p);
        }
        for (int p = 0; p <= 3; p++) {
            n = askClock(x, p, row, n);
        }
        for (int p = 4; p <= 6; p++) {
            for (int h = 0; h <= 3; h++) {
                row[n++] = x.tells(p, h);
            }
        }
        for (int i = 0; i < 2; i++) {
            row[n++] = x.close();
            for (int what = 0; what <= 5; what++) {
                row[n++] = x.paper(x.hour() - 1, what);
            }
            for (int p = 0; p <= 3; p++) {
                for (int what = 0; what <= 4; what++) {
                    row[n++] = x.as(x.hour() - 1, p, what);
                }
            }
        }
        for (int i = 0; i < 3; i++) {
            row[n++] = x.step(i, 1);
        }
        for (int p = 4; p <= 6; p++) {
            row[n++] = x.tear(p);
        }
        return row;
    }

    private static int askClock(TimeBench x, int p, int[] row, int n) {
        for (int what = 0; what <= 8; what++) {
            row[n++] = x.clock(p, what);
        }
        row[n++] = x.foretell(p);
        row[n++] = x.weight(p);
        row[n++] = x.slope(p, 0);
        row[n++] = x.slope(p, 1);
        return n;
    }

    private static void changesNothing(String call, TimeBench x) {
        int[] got = answers(x);
        int[] want = answers(bench());
        for (int i = 0; i < want.length; i++) {
            due("after " + call + ": answer " + i, got[i], want[i]);
        }
    }

    private static void refused(String name, Call call, int p, int want) {
        TimeBench x = bench();
        String told = name + " of " + p;
        due(told, call.of(x, p), want);
        changesNothing(told, x);
    }

    /** The call wants one of these KINDS. */
    private static void wants(String name, Call call, int... kinds) {
        for (int p = PLAIN; p <= LAMP; p++) {
            boolean wanted = false;
            for (int kind : kinds) {
                wanted |= kind == p;
            }
            if (!wanted) {
                refused(name, call, p, WRONG);
            } else {
                int got = call.of(bench(), p);
                due(name + " of " + p + " is refused", got == NONE || got == WRONG ? 1 : 0, 0);
            }
        }
        refused(name, call, EMPTY, NONE);
        refused(name, call, 23, NONE);
        for (int p : NO_PLACES) {
            refused(name, call, p, NONE);
        }
    }

    private static void callsOfLinks() {
        wants("read(p, 5)", (x, p) -> x.read(p, 5), WIRE, AIR, CARRIED);
        wants("back(p, 5)", (x, p) -> x.back(p, 5), CARRIED);
        wants("tear(p)", (x, p) -> x.tear(p), WIRE, AIR, CARRIED);
        wants("way(p, 5)", (x, p) -> x.way(p, 5), AIR);
        wants("tells(p, 0)", (x, p) -> x.tells(p, 0), WIRE, AIR, CARRIED);
        wants("tells(p, -1)", (x, p) -> x.tells(p, -1), WIRE, AIR, CARRIED);
    }

    private static void callsOfClocks() {
        wants("take(p)", (x, p) -> x.take(p), PLAIN, STEERED, AGED, SPARE);
        wants("leave(p)", (x, p) -> x.leave(p), PLAIN, STEERED, AGED, SPARE);
        wants("call(p, true)", (x, p) -> x.call(p, true), SPARE);
        wants("call(p, false)", (x, p) -> x.call(p, false), SPARE);
        wants("steer(p, 50)", (x, p) -> x.steer(p, 50), STEERED, SPARE);
        for (int w = 0; w <= 8; w++) {
            int what = w;
            wants("clock(p, " + what + ")", (x, p) -> x.clock(p, what), PLAIN, STEERED, AGED, SPARE);
        }
        wants("foretell(p)", (x, p) -> x.foretell(p), PLAIN, STEERED, AGED, SPARE);
        wants("slope(p, 0)", (x, p) -> refusedOrMore(x.slope(p, 0)), PLAIN, STEERED, AGED, SPARE);
        wants("slope(p, 1)", (x, p) -> x.slope(p, 1), PLAIN, STEERED, AGED, SPARE);
        wants("weight(p)", (x, p) -> x.weight(p), PLAIN, STEERED, AGED, SPARE);
    }

    // A slope of ROOT may well be -1 or -2, which would look refused.
    private static int refusedOrMore(int slope) {
        return slope == WRONG || slope == NONE ? slope : 1;
    }

    private static void callsOfTwoClocks() {
        int[] clocks = {PLAIN, STEERED, AGED, SPARE};
        // 2 and 3 have no way to 0: the other CLOCK is the same one, so that there is always a way.
        for (int other : clocks) {
            for (int p = WIRE; p <= LAMP; p++) {
                int bad = p;
                refused("difference(p, " + other + ", 0)", (x, q) -> x.difference(q, other, 0), bad, WRONG);
                refused("difference(" + other + ", p, 0)", (x, q) -> x.difference(other, q, 0), bad, WRONG);
                refused("along(p, " + other + ", 0)", (x, q) -> x.along(q, other, 0), bad, WRONG);
                refused("along(" + other + ", p, 0)", (x, q) -> x.along(other, q, 0), bad, WRONG);
            }
        }
        for (int p : new int[] {EMPTY, 23, -1, 24, Integer.MIN_VALUE, Integer.MAX_VALUE}) {
            refused("difference(p, 0, 0)", (x, q) -> x.difference(q, 0, 0), p, NONE);
            refused("difference(0, p, 0)", (x, q) -> x.difference(0, q, 0), p, NONE);
            refused("difference(p, p, 0)", (x, q) -> x.difference(q, q, 0), p, NONE);
            refused("along(p, 0, 0)", (x, q) -> x.along(q, 0, 0), p, NONE);
            refused("along(0, p, 0)", (x, q) -> x.along(0, q, 0), p, NONE);
            refused("along(p, p, 0)", (x, q) -> x.along(q, q, 0), p, NONE);
        }
        refused("difference(p, p, 0)", (x, q) -> x.difference(q, q, 0), LAMP, WRONG);
        refused("along(p, p, 0)", (x, q) -> x.along(q, q, 0), WIRE, WRONG);
    }

    /** kind() and lift() want anything that lies there. */
    private static void callsOfAnything() {
        for (int p : NO_PLACES) {
            refused("kind(p)", (x, q) -> x.kind(q), p, NONE);
            refused("lift(p)", (x, q) -> x.lift(q), p, NONE);
        }
        refused("kind(p)", (x, q) -> x.kind(q), EMPTY, NONE);
        refused("lift(p)", (x, q) -> x.lift(q), EMPTY, NONE);
        refused("lift(p), FIRST of a LINK", (x, q) -> x.lift(q), PLAIN, WRONG);
        refused("lift(p), SECOND of a LINK", (x, q) -> x.lift(q), STEERED, WRONG);
        for (int p = AGED; p <= LAMP; p++) {
            due("kind(" + p + ")", bench().kind(p), p);
            due("lift(" + p + ")", bench().lift(p), p);
        }
    }

    private static void putsThatCannotBe() {
        for (int p : NO_PLACES) {
            refused("put(p, LAMP, 0, 1)", (x, q) -> x.put(q, LAMP, 0, 1), p, NONE);
        }
        for (int p = PLAIN; p <= LAMP; p++) {
            for (int k = PLAIN; k <= LAMP; k += 2) {
                int kind = k;
                refused("put(p, " + kind + ", 2, 3)", (x, q) -> x.put(q, kind, 2, 3), p, NONE);
            }
            refused("put(p, LAMP, 0, 1)", (x, q) -> x.put(q, LAMP, 0, 1), p, NONE);
        }
        for (int k : new int[] {-1, 8, Integer.MIN_VALUE, Integer.MAX_VALUE}) {
            refused("put(p, " + k + ", 2, 3)", (x, q) -> x.put(q, k, 2, 3), EMPTY, NONE);
        }
        for (int kind = PLAIN; kind <= SPARE; kind++) {
            int k = kind;
            for (int bad : new int[] {1, 13, 0, -1, Integer.MIN_VALUE, Integer.MAX_VALUE}) {
                refused("put(p, " + k + ", " + bad + ", 2)", (x, q) -> x.put(q, k, bad, 2), EMPTY, NONE);
            }
            for (int bad : new int[] {0, 13, -1, Integer.MIN_VALUE, Integer.MAX_VALUE}) {
                refused("put(p, " + k + ", 2, " + bad + ")", (x, q) -> x.put(q, k, 2, bad), EMPTY, NONE);
            }
        }
        for (int kind = WIRE; kind <= CARRIED; kind++) {
            int k = kind;
            for (int bad : new int[] {0, WIRE, LAMP, EMPTY, -1, 24, Integer.MIN_VALUE, Integer.MAX_VALUE}) {
                refused("put(p, " + k + ", " + bad + ", 0)", (x, q) -> x.put(q, k, bad, 0), EMPTY, NONE);
                refused("put(p, " + k + ", 0, " + bad + ")", (x, q) -> x.put(q, k, 0, bad), EMPTY, NONE);
            }
        }
    }

    private static void valuesThatCannotBe() {
        for (int v : new int[] {10001, -10001, Integer.MIN_VALUE, Integer.MAX_VALUE}) {
            for (int p = WIRE; p <= CARRIED; p++) {
                refused("read(p, " + v + ")", (x, q) -> x.read(q, v), p, NONE);
            }
            refused("back(p, " + v + ")", (x, q) -> x.back(q, v), CARRIED, NONE);
            refused("way(p, " + v + ")", (x, q) -> x.way(q, v), AIR, NONE);
            refused("steer(p, " + v + ")", (x, q) -> x.steer(q, v), STEERED, UNTOLD);
            refused("steer(p, " + v + ")", (x, q) -> x.steer(q, v), SPARE, UNTOLD);
        }
        for (int v : new int[] {1000001, -1000001, Integer.MIN_VALUE, Integer.MAX_VALUE}) {
            refused("show(" + v + ")", (x, q) -> x.show(v) ? 1 : 0, 0, 0);
        }
        int[][] sets = {{0, 0}, {0, 101}, {0, -1}, {1, 1}, {1, 21}, {1, -5}, {2, -1}, {2, 3600}, {-1, 10}, {3, 10}, {4, 10},
            {0, Integer.MIN_VALUE}, {1, Integer.MAX_VALUE}, {2, Integer.MIN_VALUE}, {Integer.MAX_VALUE, 10}};
        for (int[] s : sets) {
            refused("set(" + s[0] + ", " + s[1] + ")", (x, q) -> x.set(s[0], s[1]) ? 1 : 0, 0, 0);
        }
    }

    public static void main(String[] args) {
        callsOfLinks();
        callsOfClocks();
        callsOfTwoClocks();
        callsOfAnything();
        putsThatCannotBe();
        valuesThatCannotBe();
        System.out.println("RefusalsTest: " + asked + " answers, " + wrong + " not as due");
        if (wrong != 0) {
            System.exit(1);
        }
    }
}

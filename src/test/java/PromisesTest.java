/** One method for each promise; every due answer is worked out by hand from the document. */
public final class PromisesTest {
    private static final int NONE = -1;
    private static final int WRONG = -2;
    private static final int UNTOLD = 1000000;
    private static final int UNKNOWN = 2000000000;

    private static int wrong = 0;
    private static int asked = 0;
    private static String section = "";

    private static void due(String call, long got, long want) {
        asked++;
        if (got != want) {
            wrong++;
            System.out.println(section + ": " + call + " answered " + got + ", due is " + want);
        }
    }

    private static void due(String call, boolean got, boolean want) {
        due(call, got ? 1 : 0, want ? 1 : 0);
    }

    /** Clocks in 0 and 1, a WIRE of them in 2, both TAKEN. */
    private static TimeBench pair(int kind, int span, int reach) {
        TimeBench x = new TimeBench();
        x.put(0, 0, span, reach);
        x.put(1, kind, span, reach);
        x.put(2, 4, 0, 1);
        x.take(0);
        x.take(1);
        return x;
    }

    private static void hours(TimeBench x, int... readings) {
        for (int v : readings) {
            x.read(2, v);
            x.close();
        }
    }

    /** A pair of which both are OUT: all WEIGHTS are 0, and so X of 1 is what the WIRE reads. */
    private static TimeBench freed(int kind, int span, int reach) {
        TimeBench x = pair(kind, span, reach);
        hours(x, 0, 0, 100, 1000);
        due("freed: clock(0, 1)", x.clock(0, 1), 1);
        due("freed: clock(1, 1)", x.clock(1, 1), 1);
        return x;
    }

    private static void promise1() {
        TimeBench x = new TimeBench();
        due("hour()", x.hour(), 0);
        due("off()", x.off(), 0);
        for (int p = -1; p <= 24; p++) {
            due("kind(" + p + ")", x.kind(p), NONE);
        }
        due("step(0, 0)", x.step(0, 0), NONE);
        due("link(0)", x.link(0), NONE);
        due("NONE", TimeBench.NONE, NONE);
        due("WRONG", TimeBench.WRONG, WRONG);
        TimeBench other = new TimeBench();
        other.put(0, 7, 0, 0);
        due("kind(0) of another bench", x.kind(0), NONE);
    }

    private static void promise2() {
        TimeBench x = new TimeBench();
        due("put(-1, 7, 0, 0)", x.put(-1, 7, 0, 0), NONE);
        due("put(24, 7, 0, 0)", x.put(24, 7, 0, 0), NONE);
        due("put(23, 7, 0, 0)", x.put(23, 7, 0, 0), 23);
        due("put(23, 7, 0, 0) again", x.put(23, 7, 0, 0), NONE);
        due("put(0, -1, 2, 2)", x.put(0, -1, 2, 2), NONE);
        due("put(0, 8, 2, 2)", x.put(0, 8, 2, 2), NONE);
        for (int kind = 0; kind <= 3; kind++) {
            due("SPAN 1", x.put(kind, kind, 1, 1), NONE);
            due("SPAN 13", x.put(kind, kind, 13, 1), NONE);
            due("REACH 0", x.put(kind, kind, 2, 0), NONE);
            due("REACH 13", x.put(kind, kind, 2, 13), NONE);
            due("the clock", x.put(kind, kind, kind % 2 == 0 ? 2 : 12, kind % 2 == 0 ? 12 : 1), kind);
            due("kind", x.kind(kind), kind);
        }
        for (int kind = 4; kind <= 6; kind++) {
            due("a is b", x.put(kind, kind, 1, 1), NONE);
            due("a has nothing", x.put(kind, kind, 20, 1), NONE);
            due("b has nothing", x.put(kind, kind, 1, 20), NONE);
            due("a is a LAMP", x.put(kind, kind, 23, 1), NONE);
            due("b is no PLACE", x.put(kind, kind, 1, 24), NONE);
            due("a is no PLACE", x.put(kind, kind, -1, 1), NONE);
            due("the link", x.put(kind, kind, 3, 0), kind);
            due("b is a LINK", x.put(kind + 4, kind, 0, kind), NONE);
            due("kind", x.kind(kind), kind);
        }
        due("nothing came of it", x.kind(10), NONE);
        TimeBench y = new TimeBench();
        due("a LAMP in 0", y.put(0, 7, 0, 0), 0);
        due("lift(0)", y.lift(0), 7);
        due("lift(0) again", y.lift(0), NONE);
        y.put(1, 0, 2, 2);
        y.put(23, 0, 2, 2);
        due("a LINK in 0", y.put(0, 4, 23, 1), 0);
        due("read(0, 7)", y.read(0, 7), 1);
        due("difference(1, 23, 0)", y.difference(1, 23, 0), -7);
        due("lift(23) under a LINK in 0", y.lift(23), WRONG);
        due("a full place", x.put(4, 0, 2, 2), NONE);
    }

    private static void promise3() {
        TimeBench x = pair(1, 3, 3);
        hours(x, 5);
        x.put(9, 7, 0, 0);
        x.steer(1, 50);
        due("lift(0) under a LINK", x.lift(0), WRONG);
        due("lift(1) under a LINK", x.lift(1), WRONG);
        due("lift(3)", x.lift(3), NONE);
        due("lift(24)", x.lift(24), NONE);
        due("lift(-1)", x.lift(-1), NONE);
        due("lift(9)", x.lift(9), 7);
        due("lift(2)", x.lift(2), 4);
        due("kind(2)", x.kind(2), NONE);
        due("lift(1)", x.lift(1), 1);
        due("as(0, 1, 0) stays", x.as(0, 1, 0), 5);
        due("put(1) anew", x.put(1, 3, 3, 3), 1);
        due("its X's", x.clock(1, 3), 0);
        due("its SETTING", x.clock(1, 4), 0);
        due("TAKEN", x.clock(1, 0), 0);
        due("foretell(1)", x.foretell(1), UNKNOWN);
        due("put(2) anew", x.put(2, 4, 0, 1), 2);
        due("tells(2, 0)", x.tells(2, 0), UNTOLD);
    }

    private static void promise4() {
        TimeBench x = pair(2, 3, 3);
        x.put(3, 5, 0, 1);
        x.put(4, 6, 0, 1);
        x.put(23, 7, 0, 0);
        due("kind(0)", x.kind(0), 0);
        due("kind(1)", x.kind(1), 2);
        due("kind(2)", x.kind(2), 4);
        due("kind(3)", x.kind(3), 5);
        due("kind(4)", x.kind(4), 6);
        due("kind(23)", x.kind(23), 7);
        due("kind(22)", x.kind(22), NONE);
        due("kind(MIN)", x.kind(Integer.MIN_VALUE), NONE);
        due("kind(MAX)", x.kind(Integer.MAX_VALUE), NONE);
    }

    private static void promise5() {
        TimeBench x = pair(0, 3, 3);
        due("read(2, 10000)", x.read(2, 10000), 1);
        due("read(2, 10001)", x.read(2, 10001), NONE);
        due("read(2, -10001)", x.read(2, -10001), NONE);
        due("tells(2, 0)", x.tells(2, 0), 10000);
        due("read(2, -10000)", x.read(2, -10000), 1);
        due("the latest counts", x.tells(2, 0), -10000);
        due("read(0, 0)", x.read(0, 0), WRONG);
        due("read(3, 0)", x.read(3, 0), NONE);
        due("read(24, 0)", x.read(24, 0), NONE);
        due("read(-1, 0)", x.read(-1, 0), NONE);
        x.close();
        due("read(2, 3)", x.read(2, 3), 1);
        due("the hour ahead stays", x.tells(2, 0), -10000);
        due("tells(2, 1)", x.tells(2, 1), 3);
        x.put(3, 6, 0, 1);
        while (x.hour() < 199) {
            x.close();
        }
        for (int h = 199; h <= 200; h++) {
            due("read(3, 80) at " + h, x.read(3, 80), 1);
            due("back(3, 16) at " + h, x.back(3, 16), 1);
            due("tells(3, " + h + ")", x.tells(3, h), 12);
            due("difference(1, 0, " + h + ")", x.difference(1, 0, h), -12);
            x.close();
        }
        due("tells(3, 201)", x.tells(3, 201), UNTOLD);
        due("tear(3)", x.tear(3), 2);
    }

    private static void promise6() {
        TimeBench x = pair(0, 3, 3);
        x.put(3, 6, 0, 1);
        x.put(4, 5, 0, 1);
        x.put(5, 7, 0, 1);
        due("back(3, 10000)", x.back(3, 10000), 1);
        due("back(3, -10001)", x.back(3, -10001), NONE);
        due("back(3, 10001)", x.back(3, 10001), NONE);
        due("no THERE", x.tells(3, 0), UNTOLD);
        x.read(3, 10000);
        due("tells(3, 0)", x.tells(3, 0), 2500);
        due("back(3, -10000)", x.back(3, -10000), 1);
        due("tells(3, 0)", x.tells(3, 0), 0);
        due("back(2, 1)", x.back(2, 1), WRONG);
        due("back(4, 1)", x.back(4, 1), WRONG);
        due("back(5, 1)", x.back(5, 1), WRONG);
        due("back(0, 1)", x.back(0, 1), WRONG);
        due("back(6, 1)", x.back(6, 1), NONE);
        due("back(24, 1)", x.back(24, 1), NONE);
    }

    private static void promise7() {
        TimeBench x = pair(0, 3, 3);
        x.put(3, 6, 0, 1);
        due("tear(2)", x.tear(2), 0);
        x.read(2, 1);
        x.read(2, 2);
        x.read(3, 1);
        x.close();
        x.back(3, 1);
        x.close();
        x.read(3, 1);
        x.back(3, 1);
        x.read(2, 3);
        due("tear(2)", x.tear(2), 2);
        due("tells(2, 0)", x.tells(2, 0), UNTOLD);
        due("tells(2, 2)", x.tells(2, 2), UNTOLD);
        due("tear(3)", x.tear(3), 3);
        x.read(3, 8);
        due("BACK is torn, too", x.tells(3, 2), UNTOLD);
        due("read again", x.read(2, 4), 1);
        due("tells(2, 2)", x.tells(2, 2), 4);
        due("tear(0)", x.tear(0), WRONG);
        due("tear(4)", x.tear(4), NONE);
        due("tear(24)", x.tear(24), NONE);
        due("X of a closed hour stays", x.as(0, 1, 0), 2);
    }

    private static void promise8() {
        TimeBench x = pair(0, 3, 3);
        x.put(3, 5, 1, 0);
        x.put(4, 6, 0, 1);
        x.read(3, 10);
        due("tells(3, 0)", x.tells(3, 0), 10);
        x.close();
        due("way(3, 10000)", x.way(3, 10000), 1);
        due("of all hours", x.tells(3, 0), -9990);
        due("way(3, 10001)", x.way(3, 10001), NONE);
        due("way(3, -10001)", x.way(3, -10001), NONE);
        due("it stays", x.tells(3, 0), -9990);
        due("way(3, -10000)", x.way(3, -10000), 1);
        due("tells(3, 0)", x.tells(3, 0), 10010);
        x.tear(3);
        x.read(3, 1);
        due("the WAY is not torn", x.tells(3, 1), 10001);
        due("way(2, 1)", x.way(2, 1), WRONG);
        due("way(4, 1)", x.way(4, 1), WRONG);
        due("way(0, 1)", x.way(0, 1), WRONG);
        due("way(5, 1)", x.way(5, 1), NONE);
        due("way(-1, 1)", x.way(-1, 1), NONE);
        x.lift(3);
        x.put(3, 5, 1, 0);
        x.read(3, 7);
        due("the WAY is 0 at first", x.tells(3, 1), 7);
    }

    private static void promise9() {
        TimeBench x = pair(0, 3, 3);
        x.put(3, 6, 0, 1);
        due("nothing yet", x.tells(2, 0), UNTOLD);
        x.read(2, 0);
        due("0", x.tells(2, 0), 0);
        due("tells(2, -1)", x.tells(2, -1), UNTOLD);
        due("tells(2, 1)", x.tells(2, 1), UNTOLD);
        due("tells(2, 200)", x.tells(2, 200), UNTOLD);
        due("tells(2, MAX)", x.tells(2, Integer.MAX_VALUE), UNTOLD);
        due("tells(0, 0)", x.tells(0, 0), WRONG);
        due("tells(0, -1)", x.tells(0, -1), WRONG);
        due("tells(4, 0)", x.tells(4, 0), NONE);
        due("tells(24, 0)", x.tells(24, 0), NONE);
        int[][] quarters = {{7, 0, 0}, {-7, 0, 0}, {8, 0, 1}, {-5, -3, -1}, {-8, -7, -1}, {9, 7, 2}, {10000, 10000, 2500}};
        for (int[] q : quarters) {
            x.read(3, q[0]);
            x.back(3, q[1]);
            due("CARRIED " + q[0] + ", " + q[1], x.tells(3, 0), q[2]);
        }
    }

    /** A ring of four clocks, 0 - 1 - 3 - 2 - 0, and a doubled link. */
    private static TimeBench ringed() {
        TimeBench x = new TimeBench();
        for (int p = 0; p < 5; p++) {
            x.put(p, 0, 3, 3);
        }
        x.put(20, 4, 0, 1);
        x.put(10, 4, 3, 1);
        x.put(12, 4, 2, 0);
        x.put(11, 4, 2, 3);
        x.read(20, 1);
        x.read(10, 20);
        x.read(12, 300);
        x.read(11, 4000);
        return x;
    }

    private static void promise10() {
        TimeBench x = ringed();
        // 0 to 3: by 12 and 11 (first by its PLACES), not by 20 and 10.
        due("difference(0, 3, 0)", x.difference(0, 3, 0), -300 + 4000);
        due("difference(3, 0, 0)", x.difference(3, 0, 0), 300 - 4000);
        // 1 to 2: by 10 and 11 rather than by 20 and 12.
        due("difference(1, 2, 0)", x.difference(1, 2, 0), -20 - 4000);
        due("difference(2, 1, 0)", x.difference(2, 1, 0), 20 + 4000);
        due("difference(2, 2, 0)", x.difference(2, 2, 0), 0);
        due("difference(0, 4, 0)", x.difference(0, 4, 0), UNTOLD);
        due("difference(4, 4, 0)", x.difference(4, 4, 0), 0);
        due("difference(4, 4, -1)", x.difference(4, 4, -1), UNTOLD);
        due("difference(4, 4, 1)", x.difference(4, 4, 1), UNTOLD);
        due("difference(0, 3, 1)", x.difference(0, 3, 1), UNTOLD);
        due("difference(0, 20, 0)", x.difference(0, 20, 0), WRONG);
        due("difference(20, 0, 0)", x.difference(20, 0, 0), WRONG);
        due("difference(5, 0, 0)", x.difference(5, 0, 0), NONE);
        due("difference(0, -1, 0)", x.difference(0, -1, 0), NONE);
        due("difference(0, 24, 0)", x.difference(0, 24, 0), NONE);
        x.tear(11);
        due("difference(0, 3, 0) the other way", x.difference(0, 3, 0), 1 - 20);
        due("difference(1, 2, 0) by 0", x.difference(1, 2, 0), -1 - 300);
        x.close();
        due("difference(0, 3, 0) of a closed hour", x.difference(0, 3, 0), 1 - 20);
        due("difference(0, 3, 1)", x.difference(0, 3, 1), UNTOLD);
    }

    private static void promise11() {
        TimeBench x = ringed();
        due("along(0, 1, 0)", x.along(0, 1, 0), 1);
        due("along(0, 3, 0)", x.along(0, 3, 0), 2);
        due("along(3, 0, 0)", x.along(3, 0, 0), 2);
        due("along(3, 3, 0)", x.along(3, 3, 0), 0);
        due("along(0, 4, 0)", x.along(0, 4, 0), NONE);
        due("along(3, 3, 1)", x.along(3, 3, 1), NONE);
        due("along(3, 3, -1)", x.along(3, 3, -1), NONE);
        due("along(0, 10, 0)", x.along(0, 10, 0), WRONG);
        due("along(10, 0, 0)", x.along(10, 0, 0), WRONG);
        due("along(0, 9, 0)", x.along(0, 9, 0), NONE);
        due("along(-1, 0, 0)", x.along(-1, 0, 0), NONE);
        x.tear(12);
        due("along(0, 2, 0) the long way", x.along(0, 2, 0), 3);
        due("link(0)", x.link(0), 20);
        due("link(1)", x.link(1), 10);
        due("link(2)", x.link(2), 11);
    }

    private static void promise12() {
        TimeBench x = ringed();
        due("link(0) before", x.link(0), NONE);
        x.along(0, 3, 0);
        due("link(-1)", x.link(-1), NONE);
        due("link(0)", x.link(0), 12);
        due("link(1)", x.link(1), 11);
        due("link(2)", x.link(2), NONE);
        due("link(MAX)", x.link(Integer.MAX_VALUE), NONE);
        x.along(3, 0, 0);
        due("link(0) turned round", x.link(0), 11);
        due("link(1) turned round", x.link(1), 12);
        x.difference(0, 1, 0);
        due("difference() tells no way", x.link(0), 11);
        x.along(0, 20, 0);
        due("WRONG changes nothing", x.link(0), 11);
        x.tear(11);
        x.lift(11);
        due("what was told stays", x.link(0), 11);
        x.along(0, 4, 0);
        due("along() told no way", x.link(0), NONE);
        x.along(2, 1, 0);
        due("link(0)", x.link(0), 12);
        due("link(1)", x.link(1), 20);
        x.along(1, 1, 0);
        due("a way of no LINKS", x.link(0), NONE);
        x.put(5, 6, 0, 1);
        x.read(5, 80);
        x.along(0, 1, 0);
        due("one that doesn't TELL", x.link(0), 20);
        x.back(5, 0);
        x.along(0, 1, 0);
        due("the least PLACE", x.link(0), 5);
    }

    private static void promise13() {
        TimeBench x = freed(0, 2, 3);
        due("clock(1, 3)", x.clock(1, 3), 4);
        due("take(1)", x.take(1), 1);
        due("no X", x.clock(1, 3), 0);
        due("not OUT", x.clock(1, 1), 0);
        due("foretell(1)", x.foretell(1), UNKNOWN);
        due("weight(1)", x.weight(1), 0);
        due("its STEPS stay", x.clock(1, 7), 1);
        due("take(2)", x.take(2), WRONG);
        due("take(3)", x.take(3), NONE);
        due("take(24)", x.take(24), NONE);
        hours(x, 7);
        due("one X", x.clock(1, 3), 1);
        due("MISSED nothing", x.weight(1), 1);
        due("foretell(1)", x.foretell(1), 7);
        due("as() stays", x.as(2, 1, 0), 50);
        TimeBench y = pair(0, 2, 3);
        hours(y, 0, 0, 100);
        due("SUSPECT", y.clock(1, 2), 1);
        y.take(1);
        due("not SUSPECT", y.clock(1, 2), 0);
    }

    private static void promise14() {
        TimeBench x = pair(0, 2, 3);
        hours(x, 5);
        due("leave(1)", x.leave(1), 1);
        due("leave(1) again", x.leave(1), 0);
        due("clock(1, 0)", x.clock(1, 0), 0);
        due("its X stays", x.clock(1, 3), 1);
        due("foretell(1)", x.foretell(1), 5);
        x.read(2, 5);
        due("close()", x.close(), 1);
        due("as(1, 1, 0)", x.as(1, 1, 0), UNKNOWN);
        due("leave(2)", x.leave(2), WRONG);
        due("leave(3)", x.leave(3), NONE);
        due("leave(-1)", x.leave(-1), NONE);
        x.leave(0);
        due("close() without ROOT", x.close(), 0);
        due("paper(2, 1)", x.paper(2, 1), NONE);
        due("paper(1, 4) of a lonely ROOT", x.paper(1, 4), 0);
        due("paper(1, 1) of a lonely ROOT", x.paper(1, 1), 1);
        x.put(5, 3, 2, 2);
        x.take(5);
        due("leave(5), SPARE, not CALLED", x.leave(5), 1);
    }

    private static void promise15() {
        TimeBench x = pair(3, 2, 3);
        due("not CALLED", x.clock(1, 0), 0);
        x.read(2, 1);
        due("close()", x.close(), 1);
        due("call(1, true)", x.call(1, true), 1);
        due("CALLED", x.clock(1, 0), 1);
        x.read(2, 1);
        due("close()", x.close(), 2);
        due("call(1, false)", x.call(1, false), 1);
        due("no more", x.clock(1, 0), 0);
        x.read(2, 1);
        due("close()", x.close(), 1);
        due("its X stays", x.clock(1, 3), 1);
        due("call(0, true)", x.call(0, true), WRONG);
        due("call(2, true)", x.call(2, true), WRONG);
        due("call(3, true)", x.call(3, true), NONE);
        due("call(24, true)", x.call(24, true), NONE);
        x.call(1, true);
        x.leave(1);
        due("CALLED, not TAKEN", x.clock(1, 0), 0);
        x.lift(2);
        x.lift(1);
        x.put(1, 3, 2, 3);
        x.take(1);
        due("not CALLED at first", x.clock(1, 0), 0);
    }

    private static void promise16() {
        TimeBench x = pair(1, 2, 3);
        x.put(3, 3, 2, 3);
        x.put(4, 2, 2, 3);
        due("steer(1, 10000)", x.steer(1, 10000), 10000);
        due("steer(1, 10001)", x.steer(1, 10001), UNTOLD);
        due("steer(1, -10001)", x.steer(1, -10001), UNTOLD);
        due("steer(1, MIN)", x.steer(1, Integer.MIN_VALUE), UNTOLD);
        due("steer(1, -10000)", x.steer(1, -10000), 0);
        due("steer(3, 5)", x.steer(3, 5), 5);
        due("steer(0, 5)", x.steer(0, 5), WRONG);
        due("steer(4, 5)", x.steer(4, 5), WRONG);
        due("steer(2, 5)", x.steer(2, 5), WRONG);
        due("steer(2, 10001)", x.steer(2, 10001), WRONG);
        due("steer(5, 5)", x.steer(5, 5), NONE);
        due("steer(24, 5)", x.steer(24, 5), NONE);
        for (int i = 1; i <= 10; i++) {
            due("steer up", x.steer(1, 10000), 10000 * i);
        }
        due("steer(1, 1)", x.steer(1, 1), UNTOLD);
        due("clock(1, 4)", x.clock(1, 4), 100000);
        for (int i = 9; i >= -10; i--) {
            due("steer down", x.steer(1, -10000), 10000 * i);
        }
        due("steer(1, -1)", x.steer(1, -1), UNTOLD);
        due("clock(1, 4)", x.clock(1, 4), -100000);
        x.read(2, 5);
        x.close();
        due("D is free of it", x.as(0, 1, 4), -5 + 100000);
        x.steer(1, 300);
        due("a closed hour stays", x.as(0, 1, 4), -5 + 100000);
    }

    private static void promise17() {
        TimeBench x = new TimeBench();
        int[][] bounds = {{0, 1, 100}, {1, 2, 20}, {2, 0, 3599}};
        for (int[] b : bounds) {
            due("below", x.set(b[0], b[1] - 1), false);
            due("least", x.set(b[0], b[1]), true);
            due("most", x.set(b[0], b[2]), true);
            due("above", x.set(b[0], b[2] + 1), false);
        }
        due("set(3, 10)", x.set(3, 10), false);
        due("set(-1, 10)", x.set(-1, 10), false);
        x.show(10000);
        x.close();
        due("the PACE is 3599", x.off(), 10000 - 3599);
        TimeBench y = pair(0, 2, 2);
        hours(y, 0, 0);
        y.set(0, 1);
        hours(y, 0);
        due("PART 1", y.as(2, 0, 3), 20000);
        due("paper(2, 5)", y.paper(2, 5), 1);
        due("paper(1, 5)", y.paper(1, 5), 40);
        y.set(0, 100);
        hours(y, 0);
        due("PART 100", y.as(3, 0, 3), 1000000);
        // TIMES 2: 2 is not above 2 times (0 and 1), 3 is.
        due("set(1, 2)", y.set(1, 2), true);
        hours(y, 4);
        due("MISSED 2", y.clock(1, 2), 0);
        TimeBench z = pair(0, 2, 2);
        z.set(1, 2);
        hours(z, 0, 0, 6);
        due("MISSED 3", z.clock(1, 2), 1);
    }

    private static void promise18() {
        TimeBench x = new TimeBench();
        for (int h = 0; h < 200; h++) {
            due("close()", x.close(), 0);
        }
        x.show(500);
        due("close() at 200", x.close(), NONE);
        due("hour()", x.hour(), 200);
        due("off()", x.off(), 500);
        closesWithGaps();
        weighs();
        findsSteps();
    }

    private static void closesWithGaps() {
        TimeBench x = new TimeBench();
        for (int p = 0; p < 4; p++) {
            x.put(p, 0, 3, 3);
        }
        x.put(10, 4, 1, 2);
        x.put(11, 4, 2, 3);
        x.take(1);
        x.take(3);
        x.read(10, 4);
        x.read(11, 5);
        // By 2, which is not TAKEN itself.
        due("close()", x.close(), 2);
        due("ROOT", x.paper(0, 0), 1);
        due("as(0, 3, 4)", x.as(0, 3, 4), -9);
        due("as(0, 2, 4)", x.as(0, 2, 4), UNKNOWN);
        x.read(10, 4);
        due("close() with a LINK that doesn't TELL", x.close(), 1);
        x.take(0);
        x.read(10, 4);
        x.read(11, 5);
        due("close() of a lonely ROOT", x.close(), 1);
        due("ROOT", x.paper(2, 0), 0);
        due("as(2, 1, 0)", x.as(2, 1, 0), UNKNOWN);
    }

    private static void weighs() {
        TimeBench x = pair(0, 2, 2);
        hours(x, 0, 1);
        // WEIGHTS 1 and 1, (0 and 0) and (0 and -1): -1 by 2, downwards.
        due("X of ROOT", x.as(1, 0, 0), -1);
        due("REST", x.paper(1, 3), 1);
        due("X of 1", x.as(1, 1, 0), 0);
        due("MISSED of ROOT", x.as(1, 0, 2), -1);
        due("MISSED of 1", x.as(1, 1, 2), 0);
        due("FULL WEIGHT of ROOT", x.weight(0), 500000);
        due("FULL WEIGHT of 1", x.weight(1), 1000000);
        hours(x, 0);
        // At most 40 percent of 1500000; FORETOLD are -2 and 0, D is 0.
        due("WEIGHT of ROOT", x.as(2, 0, 3), 500000);
        due("WEIGHT of 1", x.as(2, 1, 3), 600000);
        due("sum", x.paper(2, 2), 1100000);
        due("X of ROOT", x.as(2, 0, 0), -1);
        due("REST", x.paper(2, 3), 100000);
        // -1 by 2 MISSED: 1 of hour 1, and -1 less -2 of hour 2.
        due("FULL WEIGHT of ROOT", x.weight(0), 333333);
        TimeBench y = pair(0, 2, 3);
        hours(y, 0, 8000);
        due("MISSED", y.as(1, 1, 2), 4000);
        due("at least 1", y.weight(1), 1);
    }

    private static void findsSteps() {
        for (int k = 25; k <= 26; k++) {
            TimeBench x = pair(0, 2, 3);
            // MISSED -51 and 51 at hour 2, FORETOLD -102 and 102 for hour 3, MISSED -k and k there.
            hours(x, 0, 0, 102, 204 + 2 * k);
            due("MISSED at 2", x.as(2, 0, 2), -51);
            due("MISSED at 3", x.as(3, 1, 2), k);
            due("OUT", x.clock(0, 1), k == 26 ? 1 : 0);
            due("STEPS", x.clock(1, 7), k == 26 ? 1 : 0);
            due("not asked", x.clock(1, 2), 0);
        }
        TimeBench other = pair(0, 2, 3);
        hours(other, 0, 0, 102, 204 - 200);
        due("another sign", other.as(3, 1, 2), -100);
        due("no STEP", other.clock(1, 7), 0);
        TimeBench late = pair(0, 2, 3);
        hours(late, 0, 0, 102);
        late.close();
        hours(late, 5000);
        due("not SUSPECT at the hour ahead: no STEP", late.clock(1, 7), 0);
    }

    private static void promise19() {
        TimeBench x = new TimeBench();
        due("hour()", x.hour(), 0);
        x.close();
        x.close();
        due("hour()", x.hour(), 2);
    }

    private static void promise20() {
        TimeBench x = pair(1, 5, 7);
        due("clock(1, 0)", x.clock(1, 0), 1);
        due("clock(1, 2) at hour 0", x.clock(1, 2), 0);
        due("clock(1, 5)", x.clock(1, 5), 5);
        due("clock(1, 6)", x.clock(1, 6), 7);
        due("clock(1, 9)", x.clock(1, 9), NONE);
        due("clock(1, -1)", x.clock(1, -1), NONE);
        due("clock(2, 0)", x.clock(2, 0), WRONG);
        due("clock(2, 9)", x.clock(2, 9), WRONG);
        due("clock(3, 0)", x.clock(3, 0), NONE);
        due("clock(24, 0)", x.clock(24, 0), NONE);
        x.steer(1, -3);
        due("clock(1, 4)", x.clock(1, 4), -3);
        due("clock(0, 4)", x.clock(0, 4), 0);
        hours(x, 1, 1, 1, 1, 1, 1, 1);
        due("all X's, not those of the SPAN alone", x.clock(1, 3), 7);
        suspects();
        drifts();
    }

    private static void suspects() {
        for (int k = 5; k <= 6; k++) {
            TimeBench x = pair(0, 2, 3);
            hours(x, 0, 0, 2 * k);
            due("SUSPECT by " + k, x.clock(1, 2), k == 6 ? 1 : 0);
            x.close();
            due("of the hour ahead alone", x.clock(1, 2), 0);
        }
        for (int k = 15; k <= 16; k++) {
            TimeBench x = pair(0, 2, 3);
            // A is (0 and 5) by 2, downwards: 2; FORETOLD of hour 3 are -10 and 10.
            hours(x, 0, 0, 10, 20 + 2 * k);
            due("MISSED", x.as(3, 1, 2), k);
            due("SUSPECT by " + k, x.clock(1, 2), k == 16 ? 1 : 0);
        }
    }

    private static void drifts() {
        TimeBench x = pair(0, 2, 3);
        // MISSED of 1 is 1, 2, 3, 4, 5, 5 from hour 1 on (of 0 the same below 0).
        hours(x, 0, 2, 8, 20);
        due("three hours", x.clock(1, 8), 0);
        hours(x, 40);
        due("MISSED", x.as(4, 0, 2), -4);
        due("four hours", x.clock(1, 8), 1);
        hours(x, 70);
        due("five hours", x.clock(0, 8), 2);
        hours(x, 110);
        due("MISSED", x.as(6, 1, 2), 5);
        due("not more", x.clock(1, 8), 2);
        x.take(1);
        due("since it lies there", x.clock(1, 8), 2);
        x.lift(2);
        x.lift(1);
        x.put(1, 0, 2, 3);
        due("another lies there", x.clock(1, 8), 0);
        TimeBench z = freed(0, 2, 3);
        z.lift(2);
        z.lift(1);
        z.put(1, 0, 2, 3);
        due("STEPS of another", z.clock(1, 7), 0);
        due("OUT of another", z.clock(1, 1), 0);
        TimeBench y = pair(0, 2, 3);
        // 0, 1, 2, 3: the first one has no sign.
        hours(y, 0, 0, 2, 8, 20);
        due("MISSED", y.as(4, 1, 2), 3);
        due("0 has no sign", y.clock(1, 8), 0);
    }

    private static void promise21() {
        TimeBench x = freed(0, 3, 3);
        hours(x, 0, 0, -1);
        due("-4 by 3, downwards", x.foretell(1), -2);
        hours(x, 5);
        // 0, -1, 5: the mean 4 by 3, the slope 5 by 2, two hours on.
        due("foretell(1)", x.foretell(1), 6);
        x.close();
        // -1 and 5 at two hours and one hour before the hour that had none: 17.
        due("with a gap", x.foretell(1), 17);
        x.close();
        due("one X alone", x.foretell(1), 5);
        x.close();
        due("none in the SPAN", x.foretell(1), UNKNOWN);
        due("but it has X's", x.clock(1, 3), 8);
        due("foretell(2)", x.foretell(2), WRONG);
        due("foretell(3)", x.foretell(3), NONE);
        due("foretell(24)", x.foretell(24), NONE);
        agedForetell();
        runsAway();
    }

    private static void agedForetell() {
        TimeBench x = freed(2, 4, 3);
        hours(x, 0, 1, 4, 9);
        // GAINS 1, 3, 5: 7 at the hour.
        due("foretell(1)", x.foretell(1), 16);
        due("slope(1, 0)", x.slope(1, 0), 2);
        hours(x, 9);
        // 1, 4, 9, 9: GAINS 3, 5, 0: the mean 8 by 3, the slope -3 by 2, two hours on: -1 by 3, downwards.
        due("downwards", x.foretell(1), 8);
        due("slope(1, 0)", x.slope(1, 0), -3);
        due("slope(1, 1)", x.slope(1, 1), 2);
        x.close();
        // No X at the hour ahead: the line of 4, 9, 9 at its hours: 22 by 3 and 5 by 2 times 3.
        due("without X at the hour ahead", x.foretell(1), 14);
        hours(x, 100);
        // 9, 9, nothing, 100: one GAIN alone, so the line of the X's: 455 by 14.
        due("ABOVE of the X's", x.slope(1, 0), 65);
        due("BELOW of the X's", x.slope(1, 1), 2);
    }

    /** An AGED clock is thrown once and left alone: its GAINS grow by 60000 each hour. */
    private static void runsAway() {
        TimeBench x = new TimeBench();
        x.put(0, 1, 2, 1);
        x.put(1, 2, 12, 1);
        x.put(2, 5, 0, 1);
        x.take(0);
        x.take(1);
        hours(x, 0, 0);
        for (int i = 0; i < 10; i++) {
            x.steer(0, -10000);
        }
        x.way(2, -10000);
        hours(x, 10000);
        due("X", x.as(2, 1, 0), 60000);
        due("exactly two GAINS", x.foretell(1), 180000);
        x.leave(0);
        while (x.hour() < 183) {
            x.close();
        }
        due("GAINS 1 to 182 times 60000", x.foretell(1), 999180000);
        due("slope of the GAINS", x.slope(1, 0), 60000);
        x.close();
        due("cut", x.foretell(1), 1000000000);
        x.close();
        x.close();
        due("X is as FORETOLD", x.as(185, 1, 0), 1000000000);
    }

    private static void promise22() {
        TimeBench x = freed(0, 3, 3);
        due("slope(1, 2)", x.slope(1, 2), NONE);
        due("slope(1, -1)", x.slope(1, -1), NONE);
        due("slope(2, 0)", x.slope(2, 0), WRONG);
        due("slope(2, 2)", x.slope(2, 2), WRONG);
        due("slope(3, 0)", x.slope(3, 0), NONE);
        due("slope(-1, 0)", x.slope(-1, 0), NONE);
        hours(x, 0, 0, -1);
        due("ABOVE", x.slope(1, 0), -1);
        due("BELOW", x.slope(1, 1), 2);
        hours(x, -3, -4);
        due("ABOVE in lowest terms", x.slope(1, 0), -3);
        due("BELOW in lowest terms", x.slope(1, 1), 2);
        hours(x, -3, -4);
        due("0", x.slope(1, 0), 0);
        due("by 1", x.slope(1, 1), 1);
        x.take(1);
        due("no X", x.slope(1, 0), UNKNOWN);
        due("no X", x.slope(1, 1), UNKNOWN);
        due("no X, another what", x.slope(1, 2), NONE);
        hours(x, 77);
        due("one X: 0", x.slope(1, 0), 0);
        due("one X: by 1", x.slope(1, 1), 1);
    }

    private static void promise23() {
        TimeBench x = pair(0, 2, 2);
        due("no FORETOLD", x.weight(0), 0);
        hours(x, 0);
        due("MISSED nothing yet", x.weight(0), 1);
        hours(x, 6);
        // MISSED 3 of each.
        due("1000000 by 10", x.weight(1), 100000);
        due("weight(2)", x.weight(2), WRONG);
        due("weight(3)", x.weight(3), NONE);
        due("weight(24)", x.weight(24), NONE);
        x.leave(1);
        due("would have", x.weight(1), 100000);
        x.close();
        due("within the REACH", x.weight(1), 100000);
        x.close();
        due("beyond the SPAN", x.weight(1), 0);
        due("OUT", freed(0, 2, 3).weight(1), 0);
        TimeBench y = pair(0, 5, 1);
        hours(y, 0, 6);
        y.leave(1);
        y.close();
        due("beyond the REACH alone", y.weight(1), 1);
    }

    private static void promise24() {
        TimeBench x = pair(0, 2, 3);
        hours(x, 0, 6);
        due("as(1, 1, 0)", x.as(1, 1, 0), 3);
        due("as(1, 1, 1)", x.as(1, 1, 1), 0);
        due("as(1, 1, 2)", x.as(1, 1, 2), 3);
        due("as(1, 1, 3)", x.as(1, 1, 3), 1);
        due("as(1, 1, 4)", x.as(1, 1, 4), -6);
        due("as(1, 1, 5)", x.as(1, 1, 5), NONE);
        due("as(1, 1, -1)", x.as(1, 1, -1), NONE);
        due("no FORETOLD", x.as(0, 1, 1), UNKNOWN);
        due("no MISSED", x.as(0, 1, 2), UNKNOWN);
        due("no WEIGHT", x.as(0, 1, 3), 0);
        for (int what = 0; what <= 4; what++) {
            due("not PRESENT", x.as(1, 2, what), what == 3 ? 0 : UNKNOWN);
            due("not CLOSED", x.as(2, 1, what), UNKNOWN);
            due("hour -1", x.as(-1, 1, what), UNKNOWN);
            due("hour 200", x.as(200, 1, what), UNKNOWN);
            due("place 24", x.as(1, 24, what), UNKNOWN);
            due("place -1", x.as(1, -1, what), UNKNOWN);
        }
        TimeBench y = freed(0, 2, 3);
        hours(y, 10000, -10000, 10000);
        due("FORETOLD of one that is OUT", y.as(6, 1, 1), -30000);
        due("MISSED is cut", y.as(6, 1, 2), 30000);
        due("X", y.as(6, 1, 0), 10000);
        due("WEIGHT 0", y.as(6, 1, 3), 0);
    }

    private static void promise25() {
        TimeBench x = pair(0, 2, 3);
        x.show(25);
        hours(x, 0, 1);
        due("ROOT", x.paper(1, 0), 0);
        due("PRESENT", x.paper(1, 1), 2);
        due("WEIGHTS", x.paper(1, 2), 2);
        due("REST", x.paper(1, 3), 1);
        due("OFF behind it", x.paper(0, 4), 15);
        due("OFF behind it", x.paper(1, 4), 5);
        due("PART", x.paper(1, 5), 40);
        due("another what", x.paper(1, 6), NONE);
        due("another what", x.paper(1, -1), NONE);
        x.leave(0);
        x.leave(1);
        x.close();
        for (int what = 0; what <= 5; what++) {
            due("no ROOT", x.paper(2, what), NONE);
            due("not CLOSED", x.paper(3, what), NONE);
            due("hour -1", x.paper(-1, what), NONE);
            due("hour 200", x.paper(200, what), NONE);
        }
        TimeBench y = freed(0, 2, 3);
        hours(y, 5);
        due("all WEIGHTS 0: sum", y.paper(4, 2), 0);
        due("all WEIGHTS 0: REST", y.paper(4, 3), 0);
        due("all WEIGHTS 0: X of ROOT", y.as(4, 0, 0), 0);
    }

    private static void promise26() {
        TimeBench x = pair(0, 2, 3);
        hours(x, 0, 0, 100);
        due("not yet", x.step(0, 0), NONE);
        hours(x, 300);
        due("its hour", x.step(0, 0), 2);
        due("its PLACE", x.step(0, 1), 0);
        due("MISSED at it", x.step(0, 2), -50);
        due("its hour", x.step(1, 0), 2);
        due("its PLACE", x.step(1, 1), 1);
        due("MISSED at it", x.step(1, 2), 50);
        due("step(2, 0)", x.step(2, 0), NONE);
        due("step(-1, 0)", x.step(-1, 0), NONE);
        due("step(MAX, 0)", x.step(Integer.MAX_VALUE, 0), NONE);
        due("step(0, 3)", x.step(0, 3), NONE);
        due("step(0, -1)", x.step(0, -1), NONE);
        x.lift(2);
        x.lift(1);
        due("it stays", x.step(1, 1), 1);
        manySteps();
    }

    /** Eleven clocks step ten times; 508 calls in all. */
    private static void manySteps() {
        TimeBench x = new TimeBench();
        for (int p = 0; p < 12; p++) {
            x.put(p, 0, 2, 1);
        }
        for (int p = 1; p < 12; p++) {
            x.put(11 + p, 4, 0, p);
        }
        x.take(0);
        int[] readings = {0, 1200, 4800};
        for (int round = 0; round < 10; round++) {
            for (int p = 1; p < 12; p++) {
                x.take(p);
            }
            for (int v : readings) {
                for (int p = 1; p < 12; p++) {
                    x.read(11 + p, p % 2 == 0 ? v : -v);
                }
                x.close();
            }
        }
        int steps = 0;
        for (int p = 1; p < 12; p++) {
            steps += x.clock(p, 7);
        }
        due("STEPS of all clocks", steps, 110);
        due("step(99, 0) is kept", x.step(99, 0) == NONE, false);
        due("step(100, 0)", x.step(100, 0), NONE);
        due("step(100, 1)", x.step(100, 1), NONE);
    }

    private static void promise27() {
        TimeBench x = new TimeBench();
        due("show(1000000)", x.show(1000000), true);
        due("off()", x.off(), 1000000);
        due("show(1000001)", x.show(1000001), false);
        due("show(-1000001)", x.show(-1000001), false);
        due("show(MIN)", x.show(Integer.MIN_VALUE), false);
        due("it stays", x.off(), 1000000);
        due("show(-1000000)", x.show(-1000000), true);
        due("off()", x.off(), -1000000);
        due("show(0)", x.show(0), true);
        due("off()", x.off(), 0);
    }

    private static void promise28() {
        TimeBench x = new TimeBench();
        x.show(25);
        x.close();
        due("PACE 10", x.off(), 15);
        x.close();
        x.close();
        due("as much as there is", x.off(), 0);
        x.close();
        due("never beyond", x.off(), 0);
        x.show(-12);
        x.close();
        due("from below", x.off(), -2);
        x.close();
        due("from below", x.off(), 0);
        x.set(2, 0);
        x.show(4);
        x.close();
        due("PACE 0", x.off(), 4);
    }

    private static void promise29() {
        TimeBench x = new TimeBench();
        for (int p = 0; p < 4; p++) {
            x.put(p, 0, 3, 3);
        }
        x.put(10, 4, 0, 1);
        x.put(11, 4, 2, 1);
        x.put(12, 4, 2, 0);
        x.put(9, 6, 1, 0);
        x.put(13, 7, 0, 0);
        x.read(10, 1);
        x.read(11, 20);
        due("one is not told", x.ring(0, 1, 2, 0), UNTOLD);
        due("one is not told", x.ring(1, 2, 0, 0), UNTOLD);
        due("one is not told", x.ring(2, 0, 1, 0), UNTOLD);
        x.read(12, 300);
        due("ring(0, 1, 2, 0)", x.ring(0, 1, 2, 0), 1 - 20 + 300);
        due("ring(1, 2, 0, 0)", x.ring(1, 2, 0, 0), 1 - 20 + 300);
        due("ring(2, 1, 0, 0)", x.ring(2, 1, 0, 0), 20 - 1 - 300);
        x.read(9, 80);
        x.back(9, 8);
        due("the least PLACE", x.ring(0, 1, 2, 0), -11 - 20 + 300);
        due("ring(0, 1, 3, 0)", x.ring(0, 1, 3, 0), UNTOLD);
        due("ring(0, 1, 0, 0)", x.ring(0, 1, 0, 0), UNTOLD);
        due("ring(0, 0, 0, 0)", x.ring(0, 0, 0, 0), UNTOLD);
        due("ring(0, 1, 13, 0)", x.ring(0, 1, 13, 0), UNTOLD);
        due("ring(0, 1, 24, 0)", x.ring(0, 1, 24, 0), UNTOLD);
        due("ring(-1, -1, -1, 0)", x.ring(-1, -1, -1, 0), UNTOLD);
        due("ring at -1", x.ring(0, 1, 2, -1), UNTOLD);
        due("ring at 1", x.ring(0, 1, 2, 1), UNTOLD);
        x.close();
        due("ring of a closed hour", x.ring(0, 1, 2, 0), -11 - 20 + 300);
    }

    private interface Section {
        void run();
    }

    public static void main(String[] args) {
        Section[] sections = {
            PromisesTest::promise1, PromisesTest::promise2, PromisesTest::promise3, PromisesTest::promise4,
            PromisesTest::promise5, PromisesTest::promise6, PromisesTest::promise7, PromisesTest::promise8,
            PromisesTest::promise9, PromisesTest::promise10, PromisesTest::promise11, PromisesTest::promise12,
            PromisesTest::promise13, PromisesTest::promise14, PromisesTest::promise15, PromisesTest::promise16,
            PromisesTest::promise17, PromisesTest::promise18, PromisesTest::promise19, PromisesTest::promise20,
            PromisesTest::promise21, PromisesTest::promise22, PromisesTest::promise23, PromisesTest::promise24,
            PromisesTest::promise25, PromisesTest::promise26, PromisesTest::promise27, PromisesTest::promise28,
            PromisesTest::promise29};
        for (int i = 0; i < sections.length; i++) {
            section = "promise " + (i + 1);
            sections[i].run();
        }
        System.out.println("PromisesTest: " + asked + " answers, " + wrong + " not as due");
        if (wrong != 0) {
            System.exit(1);
        }
    }
}

import java.io.IOException;
import java.nio.file.Files;
import java.nio.file.Path;

/**
 * A test of its own for each sentence of the document that names a boundary case. The sentence stands over its
 * test, and must stand in the document in just these words. Due answers are worked out by hand.
 */
public final class BoundariesTest {
    private static final int NONE = -1;
    private static final int WRONG = -2;
    private static final int UNTOLD = 1000000;
    private static final int UNKNOWN = 2000000000;
    private static final int MIN = Integer.MIN_VALUE;
    private static final int MAX = Integer.MAX_VALUE;

    private static int wrong = 0;
    private static int asked = 0;
    private static int sentences = 0;
    private static String sentence = "";
    private static String document = null;

    private static void due(String call, int got, int want) {
        asked++;
        if (got != want) {
            wrong++;
            System.out.println("\"" + sentence + "\": " + call + " answered " + got + ", due is " + want);
        }
    }

    private static void due(String call, boolean got, boolean want) {
        due(call, got ? 1 : 0, want ? 1 : 0);
    }

    private static void test(String words, Runnable section) {
        sentences++;
        sentence = words;
        if (document != null) {
            due("the document has this sentence", document.contains(words), true);
        }
        section.run();
    }

    private static void readDocument() {
        try {
            document = Files.readString(Path.of("../shared/DOC.md")).replaceAll("\\s+", " ");
        } catch (IOException e) {
            System.out.println("BoundariesTest: no document to hold the sentences against");
        }
    }

    // ---- benches

    /** Clocks in 0 and 1, a WIRE of them in 2, both TAKEN. */
    private static TimeBench pair(int kind, int span, int reach) {
        TimeBench x = new TimeBench();
        x.put(0, kind, span, reach);
        x.put(1, kind, span, reach);
        x.put(2, 4, 0, 1);
        x.take(0);
        x.take(1);
        return x;
    }

    private static void hours(TimeBench x, int... readings) {
        for (int v : readings) {
            x.read(2, v);
            x.close();
        }
    }

    private static void emptyHours(TimeBench x, int n) {
        for (int i = 0; i < n; i++) {
            x.close();
        }
    }

    /**
     * Of a pair with SPAN 2 the clocks are FORETOLD alike but for the sign, and weigh the same: 1 MISSED m, and 0
     * MISSED -m, if the WIRE reads twice what 1 is FORETOLD and m together.
     */
    private static void miss(TimeBench x, int... amounts) {
        for (int m : amounts) {
            int read = 2 * (x.foretell(1) + m);
            due("read(2, " + read + ")", x.read(2, read), 1);
            x.close();
            due("MISSED at " + (x.hour() - 1), x.as(x.hour() - 1, 1, 2), m);
        }
    }

    /** A pair, past hour 0, so that both have one X and a FORETOLD. */
    private static TimeBench missing(int reach, int... amounts) {
        TimeBench x = pair(0, 2, reach);
        hours(x, 0);
        miss(x, amounts);
        return x;
    }

    /** A pair of which both are OUT at hour 4: all WEIGHTS are 0, and so X of 1 is what the WIRE reads. */
    private static TimeBench freed(int kind, int span, int reach) {
        TimeBench x = pair(kind, span, reach);
        hours(x, 0, 0, 100, 1000);
        due("clock(0, 1)", x.clock(0, 1), 1);
        due("clock(1, 1)", x.clock(1, 1), 1);
        return x;
    }

    // ---- the head and Terms 1

    private static void fiveHundredTwelveCalls() {
        TimeBench x = pair(0, 2, 1);
        for (int i = 0; i < 200; i++) {
            x.read(2, i % 2);
            x.close();
        }
        for (int i = 405; i < 511; i++) {
            due("call " + (i + 1), x.hour(), 200);
        }
        due("call 512", x.tells(2, 199), 1);
    }

    private static void places() {
        TimeBench x = new TimeBench();
        due("put(-1)", x.put(-1, 7, 0, 0), NONE);
        due("put(24)", x.put(24, 7, 0, 0), NONE);
        for (int p = 0; p < 24; p++) {
            due("put(" + p + ")", x.put(p, 7, 0, 0), p);
        }
        for (int p = -1; p <= 24; p++) {
            due("put(" + p + ") on a full bench", x.put(p, 7, 0, 0), NONE);
            due("kind(" + p + ")", x.kind(p), p >= 0 && p < 24 ? 7 : NONE);
        }
        due("lift(23)", x.lift(23), 7);
        due("put(23) again", x.put(23, 0, 2, 1), 23);
    }

    private static void linkInTheFirstPlace() {
        TimeBench x = new TimeBench();
        x.put(21, 0, 2, 1);
        x.put(22, 0, 2, 1);
        x.put(23, 0, 2, 1);
        x.put(1, 4, 22, 23);
        x.put(2, 4, 23, 21);
        due("put(0, 4, 21, 22)", x.put(0, 4, 21, 22), 0);
        due("read(0, 5)", x.read(0, 5), 1);
        x.read(1, 60);
        x.read(2, 700);
        due("tells(0, 0)", x.tells(0, 0), 5);
        due("difference(21, 22, 0)", x.difference(21, 22, 0), 5);
        due("along(22, 21, 0)", x.along(22, 21, 0), 1);
        due("link(0)", x.link(0), 0);
        due("ring(21, 22, 23, 0)", x.ring(21, 22, 23, 0), 765);
        x.lift(1);
        x.lift(2);
        due("lift(22) under the LINK", x.lift(22), WRONG);
        due("tear(0)", x.tear(0), 1);
        due("lift(0)", x.lift(0), 4);
        due("lift(22)", x.lift(22), 0);
    }

    private static void nothingAtFirst() {
        TimeBench x = new TimeBench();
        for (int p = 0; p < 24; p++) {
            due("kind(" + p + ")", x.kind(p), NONE);
            due("lift(" + p + ")", x.lift(p), NONE);
        }
    }

    private static void spanAndReach() {
        int[][] can = {{2, 1}, {2, 12}, {12, 1}, {12, 12}};
        int[][] cannot = {{1, 1}, {13, 1}, {2, 0}, {2, 13}, {0, 5}, {-2, 5}, {5, -1}, {MIN, 5}, {MAX, 5}, {5, MIN}, {5, MAX}};
        for (int kind = 0; kind <= 3; kind++) {
            TimeBench x = new TimeBench();
            for (int[] c : cannot) {
                due("put(0, " + kind + ", " + c[0] + ", " + c[1] + ")", x.put(0, kind, c[0], c[1]), NONE);
                due("nothing came", x.kind(0), NONE);
            }
            for (int p = 0; p < can.length; p++) {
                due("put", x.put(p, kind, can[p][0], can[p][1]), p);
                due("SPAN", x.clock(p, 5), can[p][0]);
                due("REACH", x.clock(p, 6), can[p][1]);
            }
        }
    }

    private static void notTakenAtFirst() {
        TimeBench x = new TimeBench();
        for (int kind = 0; kind <= 3; kind++) {
            x.put(kind, kind, 2, 1);
            due("clock(" + kind + ", 0)", x.clock(kind, 0), 0);
            due("leave(" + kind + ")", x.leave(kind), 0);
        }
        due("close()", x.close(), 0);
        for (int kind = 0; kind <= 3; kind++) {
            x.take(kind);
        }
        x.call(3, true);
        for (int kind = 0; kind <= 3; kind++) {
            due("clock(" + kind + ", 0)", x.clock(kind, 0), 1);
            x.lift(kind);
            x.put(kind, kind, 2, 1);
            due("clock(" + kind + ", 0) of a new one", x.clock(kind, 0), 0);
        }
        x.take(3);
        due("a new SPARE one is not CALLED", x.clock(3, 0), 0);
        due("close()", x.close(), 0);
    }

    private static void spareNotCalled() {
        TimeBench x = new TimeBench();
        x.put(0, 3, 2, 1);
        x.take(0);
        due("clock(0, 0)", x.clock(0, 0), 0);
        due("close()", x.close(), 0);
        due("no ROOT", x.paper(0, 0), NONE);
        x.put(1, 0, 2, 1);
        x.take(1);
        due("close()", x.close(), 1);
        due("ROOT is another", x.paper(1, 0), 1);
        x.call(0, true);
        due("clock(0, 0)", x.clock(0, 0), 1);
        due("close()", x.close(), 1);
        due("ROOT", x.paper(2, 0), 0);
        x.call(0, false);
        due("clock(0, 0)", x.clock(0, 0), 0);
        due("close()", x.close(), 1);
        due("ROOT is another", x.paper(3, 0), 1);
    }

    private static void settingAtFirst() {
        TimeBench x = new TimeBench();
        for (int p = 1; p <= 3; p += 2) {
            x.put(p, p, 2, 1);
            due("clock(p, 4)", x.clock(p, 4), 0);
            due("steer(p, 0)", x.steer(p, 0), 0);
            due("steer(p, 9)", x.steer(p, 9), 9);
            x.lift(p);
            x.put(p, 4 - p, 2, 1);
            due("clock(p, 4) of a new one", x.clock(p, 4), 0);
        }
    }

    private static void hourAtFirstAndLast() {
        TimeBench x = new TimeBench();
        for (int h = 0; h < 200; h++) {
            due("hour()", x.hour(), h);
            due("close()", x.close(), 0);
        }
        due("hour()", x.hour(), 200);
        due("close()", x.close(), NONE);
        due("hour()", x.hour(), 200);
    }

    private static void readingBounds() {
        for (int kind = 4; kind <= 6; kind++) {
            TimeBench x = pair(0, 2, 1);
            x.put(3, kind, 0, 1);
            x.back(3, 0);
            int by = kind == 6 ? 8 : 1;
            for (int v : new int[] {-10000, 10000}) {
                due("read(3, " + v + ")", x.read(3, v), 1);
                due("tells(3, 0)", x.tells(3, 0), v / by);
            }
            for (int v : new int[] {-10001, 10001, MIN, MAX}) {
                due("read(3, " + v + ")", x.read(3, v), NONE);
                due("tells(3, 0)", x.tells(3, 0), 10000 / by);
            }
        }
    }

    private static void latestReading() {
        TimeBench x = pair(0, 2, 1);
        x.put(3, 6, 0, 1);
        hours(x, 1);
        x.read(2, 5);
        x.read(2, 0);
        due("tells(2, 1)", x.tells(2, 1), 0);
        due("of hour 0", x.tells(2, 0), 1);
        x.read(3, 800);
        x.back(3, 80);
        x.read(3, 8);
        due("THERE", x.tells(3, 1), 11);
        x.back(3, 0);
        due("BACK", x.tells(3, 1), 1);
    }

    private static void tornOfAllHours() {
        TimeBench x = pair(0, 2, 1);
        x.put(3, 6, 0, 1);
        x.read(2, 1);
        x.read(3, 16);
        x.back(3, 0);
        emptyHours(x, 200);
        x.read(2, 4);
        x.back(3, 16);
        due("tear(2)", x.tear(2), 2);
        due("tear(3)", x.tear(3), 2);
        for (int h = 0; h <= 200; h += 200) {
            due("tells(2, " + h + ")", x.tells(2, h), UNTOLD);
            due("difference(0, 1, " + h + ")", x.difference(0, 1, h), UNTOLD);
        }
        due("read(3, 8)", x.read(3, 8), 1);
        due("BACK is torn, too", x.tells(3, 200), UNTOLD);
        due("read(2, 7) again", x.read(2, 7), 1);
        due("tells(2, 200)", x.tells(2, 200), 7);
        due("tear(2)", x.tear(2), 1);
        due("tear(2)", x.tear(2), 0);
    }

    private static void carriedBoth() {
        TimeBench x = pair(0, 2, 1);
        x.put(3, 6, 0, 1);
        due("neither", x.tells(3, 0), UNTOLD);
        x.read(3, 0);
        due("THERE alone", x.tells(3, 0), UNTOLD);
        x.back(3, 0);
        due("both, 0", x.tells(3, 0), 0);
        x.close();
        x.back(3, 0);
        due("BACK alone", x.tells(3, 1), UNTOLD);
        due("THERE of another hour", x.difference(0, 1, 1), UNTOLD);
        due("of hour 0", x.difference(0, 1, 0), 0);
    }

    private static void wayAtFirst() {
        TimeBench x = pair(0, 2, 1);
        x.put(3, 5, 0, 1);
        x.read(3, -10000);
        due("WAY 0", x.tells(3, 0), -10000);
        x.way(3, 10000);
        due("WAY 10000", x.tells(3, 0), -20000);
        x.read(3, 10000);
        x.way(3, -10000);
        due("WAY -10000", x.tells(3, 0), 20000);
        x.lift(3);
        x.put(3, 5, 0, 1);
        x.read(3, 1);
        due("WAY of a new one", x.tells(3, 0), 1);
    }

    private static void towardsZero() {
        TimeBench x = pair(0, 2, 1);
        x.put(3, 6, 0, 1);
        int[][] rows = {{7, 0, 0}, {0, -7, 0}, {8, 0, 1}, {-8, 0, -1}, {7, 8, 1}, {-7, -8, -1}, {-8, -8, -2}, {3, -10, 0},
            {10000, 10000, 2500}, {-10000, -10000, -2500}, {-10000, 9999, 0}, {9999, 10000, 2499}};
        for (int[] r : rows) {
            x.read(3, r[0]);
            x.back(3, r[1]);
            due("THERE " + r[0] + ", BACK " + r[1], x.tells(3, 0), r[2]);
        }
    }

    /** Clocks 0 .. 5, and LINKS {place, first, second, reading}. */
    private static TimeBench linked(int[]... links) {
        TimeBench x = new TimeBench();
        for (int p = 0; p <= 5; p++) {
            x.put(p, 0, 2, 1);
        }
        for (int[] l : links) {
            x.put(l[0], 4, l[1], l[2]);
            x.read(l[0], l[3]);
        }
        return x;
    }

    private static void fewestLinks() {
        TimeBench x = linked(new int[] {6, 0, 1, 1}, new int[] {7, 1, 2, 10}, new int[] {23, 0, 2, 100});
        due("one LINK of a great PLACE", x.difference(0, 2, 0), 100);
        due("along(0, 2, 0)", x.along(0, 2, 0), 1);
        x.tear(23);
        due("two, without it", x.difference(0, 2, 0), 11);
        due("along(0, 2, 0)", x.along(0, 2, 0), 2);
    }

    private static void firstByPlaces() {
        // Two ways of two LINKS from 0 to 3: 8, 20 by 1, and 9, 7 by 2.
        TimeBench x = linked(new int[] {8, 0, 1, 1}, new int[] {20, 1, 3, 10},
            new int[] {9, 0, 2, 100}, new int[] {7, 2, 3, 1000});
        due("8 is ahead of 9", x.difference(0, 3, 0), 11);
        // The lesser CLOCK in 3 of a pair 3, 4: the order is from 3 on.
        TimeBench y = linked(new int[] {9, 3, 1, 1}, new int[] {6, 1, 4, 10},
            new int[] {8, 3, 2, 100}, new int[] {20, 2, 4, 1000});
        due("from the lesser PLACE on", y.difference(4, 3, 0), -1100);
        due("along(4, 3, 0)", y.along(4, 3, 0), 2);
        due("link(0)", y.link(0), 20);
        due("link(1)", y.link(1), 8);
        // The first LINKS are the same one: the second counts.
        TimeBench z = linked(new int[] {6, 0, 1, 1}, new int[] {12, 1, 5, 10}, new int[] {11, 5, 1, 100});
        due("11 is ahead of 12", z.difference(0, 5, 0), 1 - 100);
        // Three LINKS: 6, 9, 10 by 1, 3 and 6, 8, 20 by 1, 2.
        TimeBench w = linked(new int[] {6, 0, 1, 1}, new int[] {9, 1, 3, 2}, new int[] {10, 3, 5, 4},
            new int[] {8, 1, 2, 8}, new int[] {20, 2, 5, 16});
        due("8 is ahead of 9", w.difference(0, 5, 0), 1 + 8 + 16);
        due("along(0, 5, 0)", w.along(0, 5, 0), 3);
    }

    private static void otherSign() {
        TimeBench x = linked(new int[] {6, 1, 0, 5}, new int[] {7, 1, 2, 30}, new int[] {8, 5, 4, 100});
        due("difference(0, 1, 0)", x.difference(0, 1, 0), -5);
        due("difference(1, 0, 0)", x.difference(1, 0, 0), 5);
        due("difference(0, 2, 0)", x.difference(0, 2, 0), 25);
        due("difference(2, 0, 0)", x.difference(2, 0, 0), -25);
        due("difference(4, 5, 0)", x.difference(4, 5, 0), -100);
        due("difference(5, 4, 0)", x.difference(5, 4, 0), 100);
    }

    private static void turnedRound() {
        // 1 to 2 goes by 3 (6, 9) and not by 4 (7, 8); 2 to 1 goes there, too, though 8 is ahead of 9.
        TimeBench x = linked(new int[] {6, 1, 3, 1}, new int[] {9, 3, 2, 10}, new int[] {7, 1, 4, 100}, new int[] {8, 4, 2, 1000});
        due("difference(1, 2, 0)", x.difference(1, 2, 0), 11);
        due("difference(2, 1, 0)", x.difference(2, 1, 0), -11);
        due("along(1, 2, 0)", x.along(1, 2, 0), 2);
        due("link(0)", x.link(0), 6);
        due("link(1)", x.link(1), 9);
        due("along(2, 1, 0)", x.along(2, 1, 0), 2);
        due("link(0)", x.link(0), 9);
        due("link(1)", x.link(1), 6);
        due("link(2)", x.link(2), NONE);
    }

    private static void clockAndItself() {
        TimeBench x = linked();
        for (int p = 0; p <= 5; p++) {
            due("difference", x.difference(p, p, 0), 0);
            due("along", x.along(p, p, 0), 0);
            due("link(0)", x.link(0), NONE);
        }
    }

    /** Twelve CLOCKS in a row, with AIRS that TELL 20000 each. */
    private static void longestWay() {
        TimeBench x = new TimeBench();
        for (int p = 0; p < 12; p++) {
            x.put(p, 0, 2, 1);
        }
        for (int p = 12; p < 23; p++) {
            x.put(p, 5, p - 12, p - 11);
            x.way(p, -10000);
            x.read(p, 10000);
        }
        due("difference(0, 11, 0)", x.difference(0, 11, 0), 220000);
        due("difference(11, 0, 0)", x.difference(11, 0, 0), -220000);
        due("along(11, 0, 0)", x.along(11, 0, 0), 11);
        for (int i = 0; i < 11; i++) {
            due("link(" + i + ")", x.link(i), 22 - i);
        }
        due("link(11)", x.link(11), NONE);
        x.tear(17);
        due("along(0, 11, 0)", x.along(0, 11, 0), NONE);
    }

    private static void settingsOfClosedHours() {
        TimeBench x = pair(1, 2, 1);
        x.steer(0, 1000);
        x.steer(1, 30);
        hours(x, 5);
        // D of 1: -5, less 30, and with 1000.
        due("as(0, 1, 4)", x.as(0, 1, 4), 965);
        x.steer(0, 100);
        x.steer(1, -7);
        due("as(0, 1, 4) stays", x.as(0, 1, 4), 965);
        due("as(0, 1, 0) stays", x.as(0, 1, 0), -965);
        due("the DIFFERENCE has no SETTING", x.difference(0, 1, 0), 5);
        hours(x, 5);
        due("as(1, 1, 4)", x.as(1, 1, 4), -5 - 23 + 1100);
    }

    // ---- Terms 2

    private static void withoutRoot() {
        TimeBench x = pair(0, 2, 1);
        x.leave(0);
        x.leave(1);
        x.read(2, 4);
        due("close()", x.close(), 0);
        due("THE HOUR is one more", x.hour(), 1);
        for (int what = 0; what <= 5; what++) {
            due("paper(0, " + what + ")", x.paper(0, what), NONE);
        }
        for (int what = 0; what <= 4; what++) {
            due("as(0, 0, " + what + ")", x.as(0, 0, what), what == 3 ? 0 : UNKNOWN);
        }
        due("X's", x.clock(0, 3), 0);
        TimeBench y = new TimeBench();
        y.put(23, 0, 2, 1);
        y.take(23);
        due("close()", y.close(), 1);
        due("ROOT in the last PLACE", y.paper(0, 0), 23);
        y.put(22, 0, 2, 1);
        y.take(22);
        y.put(0, 0, 2, 1);
        due("close()", y.close(), 1);
        due("the least that is TAKEN", y.paper(1, 0), 22);
    }

    private static void presentAreThese() {
        TimeBench x = linked(new int[] {6, 0, 1, 4}, new int[] {7, 1, 2, 30});
        for (int p : new int[] {0, 2, 3}) {
            x.take(p);
        }
        due("close(): 0, and 2 by 1, not 3", x.close(), 2);
        due("ROOT, too", x.as(0, 0, 4), 0);
        due("as(0, 1, 4) of one not TAKEN", x.as(0, 1, 4), UNKNOWN);
        due("as(0, 2, 4)", x.as(0, 2, 4), -34);
        due("as(0, 3, 4) without a DIFFERENCE", x.as(0, 3, 4), UNKNOWN);
        due("close() without READINGS", x.close(), 1);
        due("as(1, 0, 4)", x.as(1, 0, 4), 0);
        due("as(1, 2, 4)", x.as(1, 2, 4), UNKNOWN);
    }

    private static void spanWindow() {
        for (int span = 2; span <= 12; span += 5) {
            TimeBench x = freed(0, span, 3);
            hours(x, 7);
            emptyHours(x, span - 1);
            due("SPAN " + span + ": X of h - SPAN alone", x.foretell(1), 7);
            x.close();
            due("SPAN " + span + ": X of h - SPAN - 1", x.foretell(1), UNKNOWN);
        }
        TimeBench y = freed(0, 3, 3);
        hours(y, 9000, 1, 2, 4);
        // 1, 2, 4 at hours 5, 6, 7: the mean 7 by 3, the slope 3 by 2, two hours on.
        due("three of four X's", y.foretell(1), 5);
    }

    private static void noneAndOne() {
        TimeBench x = pair(0, 5, 1);
        due("none", x.foretell(1), UNKNOWN);
        hours(x, -9);
        due("one", x.foretell(1), -9);
        due("MISSED nothing", x.as(0, 1, 2), UNKNOWN);
        x.take(1);
        due("none since it was TAKEN last", x.foretell(1), UNKNOWN);
        due("of the other", x.foretell(0), 0);
        x.close();
        due("none yet", x.foretell(1), UNKNOWN);
    }

    private static void foretoldDownwards() {
        TimeBench x = freed(0, 3, 1);
        hours(x, 0, 0, 1);
        due("4 by 3", x.foretell(1), 1);
        hours(x, 0, 0, -1);
        due("-4 by 3", x.foretell(1), -2);
        hours(x, 0, 0, 3);
        due("just 4", x.foretell(1), 4);
        hours(x, 0, 0, -3);
        due("just -4", x.foretell(1), -4);
    }

    private static void twoGains() {
        TimeBench x = freed(2, 2, 1);
        hours(x, 1, 4);
        due("SPAN 2 has one GAIN at most", x.slope(1, 0), 3);
        due("foretell(1)", x.foretell(1), 7);
        TimeBench y = freed(2, 4, 1);
        emptyHours(y, 1);
        hours(y, 0, 3, 9);
        due("three X's, GAINS 3 and 6", y.foretell(1), 18);
        emptyHours(y, 1);
        hours(y, 100);
        // 3 and 9, nothing, 100 at hours 6, 7, 9: one GAIN; 3 times 981 less 22 times 112.
        due("ABOVE of the X's", y.slope(1, 0), 479);
        due("BELOW of the X's", y.slope(1, 1), 14);
        hours(y, 101);
        // 9, nothing, 100, 101 at hours 7, 9, 10: one GAIN still; 3 times 1973 less 26 times 210.
        due("ABOVE of the X's", y.slope(1, 0), 459);
        hours(y, 103);
        // Nothing, 100, 101, 103: GAINS 1 and 2.
        due("two GAINS again", y.foretell(1), 106);
        due("ABOVE of the GAINS", y.slope(1, 0), 1);
        TimeBench z = freed(0, 3, 1);
        hours(z, 100, 101, 103);
        due("one that is not AGED", z.slope(1, 0), 3);
    }

    private static void gainsOfTheseHours() {
        TimeBench x = freed(2, 3, 1);
        hours(x, 0, 100, 101, 103);
        // GAINS 1 and 2 of hours 6 and 7; that of hour 5 begins ahead of the SPAN.
        due("two GAINS", x.foretell(1), 106);
        due("slope of the GAINS", x.slope(1, 0), 1);
        TimeBench y = pair(2, 4, 1);
        hours(y, 0, 1, 4, 9);
        y.take(1);
        hours(y, 16, 25);
        due("one GAIN since it was TAKEN last", y.clock(1, 3), 2);
        due("BELOW of the X's", y.slope(1, 1), 1);
        due("ABOVE of the X's", y.slope(1, 0), y.as(5, 1, 0) - y.as(4, 1, 0));
    }

    private static void xAtTheHourAhead() {
        TimeBench x = freed(2, 4, 1);
        emptyHours(x, 1);
        hours(x, 100, 101, 103);
        due("GAINS 1 and 2", x.foretell(1), 106);
        emptyHours(x, 1);
        // 100, 101, 103, nothing: two GAINS, but the line is of the X's: 304 by 3, and 3 by 2 three hours on.
        due("no X at h - 1", x.foretell(1), 105);
        due("ABOVE of the X's", x.slope(1, 0), 3);
        due("BELOW of the X's", x.slope(1, 1), 2);
    }

    /**
     * The AGED clock 1 has X's 0, 0, then sign * 60000; alone from then on, its GAINS grow by 60000 each hour. The
     * bench stands at hour 183.
     */
    private static TimeBench runaway(int sign) {
        TimeBench x = new TimeBench();
        x.put(0, 1, 2, 1);
        x.put(1, 2, 12, 1);
        x.put(2, 5, 0, 1);
        x.take(0);
        x.take(1);
        hours(x, 0, 0);
        for (int i = 0; i < 10; i++) {
            x.steer(0, -10000 * sign);
        }
        x.way(2, -10000 * sign);
        hours(x, 10000 * sign);
        due("X at 2", x.as(2, 1, 0), 60000 * sign);
        x.leave(0);
        while (x.hour() < 183) {
            x.close();
        }
        return x;
    }

    private static void foretoldIsCut() {
        for (int sign = -1; sign <= 1; sign += 2) {
            TimeBench x = runaway(sign);
            due("not cut yet", x.foretell(1), sign * 999180000);
            x.close();
            due("cut", x.foretell(1), sign * 1000000000);
            emptyHours(x, 3);
            due("as(186, 1, 1)", x.as(186, 1, 1), sign * 1000000000);
            due("as(186, 1, 0)", x.as(186, 1, 0), sign * 1000000000);
        }
    }

    private static void missedIsCut() {
        for (int sign = -1; sign <= 1; sign += 2) {
            for (int more = -1; more <= 2; more++) {
                TimeBench x = freed(0, 2, 1);
                hours(x, sign * Math.max(0, more), -10000 * sign, (10000 + Math.min(0, more)) * sign);
                due("FORETOLD", x.as(6, 1, 1), sign * (-20000 - Math.max(0, more)));
                due("X", x.as(6, 1, 0), sign * (10000 + Math.min(0, more)));
                due("MISSED", x.as(6, 1, 2), sign * (30000 + Math.min(0, more)));
            }
        }
    }

    private static void weightWithoutForetold() {
        TimeBench x = pair(0, 2, 12);
        due("no X", x.weight(1), 0);
        hours(x, 0);
        due("WEIGHT then", x.as(0, 1, 3), 0);
        emptyHours(x, 1);
        due("X of h - SPAN", x.weight(1), 1);
        emptyHours(x, 1);
        due("no X of the SPAN", x.weight(1), 0);
    }

    private static void weightOfNoneMissed() {
        TimeBench x = pair(0, 12, 1);
        hours(x, 0);
        due("none", x.weight(1), 1);
        hours(x, 0);
        due("0 MISSED once", x.weight(1), 1000000);
        x.close();
        due("none within the REACH", x.weight(1), 1);
        x.take(1);
        x.read(2, 0);
        x.close();
        due("none since it was TAKEN last", x.weight(1), 1);
    }

    private static void weightByMissed() {
        int[][] rows = {{0, 1000000}, {1, 500000}, {-1, 500000}, {2, 200000}, {3, 100000}, {707, 2}, {708, 1}, {999, 1},
            {1000, 1}, {4000, 1}, {-4000, 1}};
        for (int[] r : rows) {
            TimeBench x = missing(1, r[0]);
            due("MISSED " + r[0], x.weight(1), r[1]);
            due("MISSED " + -r[0], x.weight(0), r[1]);
        }
        due("two squares", missing(2, 2, 1).weight(1), 166666);
        TimeBench y = freed(0, 2, 12);
        for (int i = 0; i < 6; i++) {
            hours(y, -10000, 10000);
        }
        due("MISSED 30000 twelve times", y.as(15, 1, 2), 30000);
        y.take(0);
        due("0 of OUT", y.weight(1), 0);
    }

    private static void reachWindow() {
        // MISSED 3 at hour 1, 0 afterwards.
        TimeBench one = missing(1, 3);
        due("h - 1", one.weight(1), 100000);
        miss(one, 0);
        due("h - 2, REACH 1", one.weight(1), 1000000);
        TimeBench two = missing(2, 3, 0);
        due("h - 2, REACH 2", two.weight(1), 100000);
        miss(two, 0);
        due("h - 3, REACH 2", two.weight(1), 1000000);
        TimeBench twelve = missing(12, 3, 0, 0, 0, 0, 0, 0, 0, 0, 0, 0, 0);
        due("h - 12, REACH 12", twelve.weight(1), 100000);
        miss(twelve, 0);
        due("h - 13, REACH 12", twelve.weight(1), 1000000);
    }

    private static void weightOfOut() {
        TimeBench x = missing(1, 0, 50, 50);
        due("OUT", x.clock(1, 1), 1);
        due("weight(1)", x.weight(1), 0);
        due("foretell(1) all the same", x.foretell(1), 250);
        x.read(2, 0);
        x.close();
        due("as(4, 1, 3)", x.as(4, 1, 3), 0);
        due("all WEIGHTS are 0: X of ROOT", x.as(4, 0, 0), 0);
    }

    private static void partOfTheSum() {
        TimeBench x = missing(1, 5, 6);
        // 1000000 by 37: 27027 each; of 54054 together 40 in a hundred, downwards.
        due("weight(1)", x.weight(1), 27027);
        miss(x, 6);
        due("as(2, 1, 3)", x.as(3, 1, 3), 21621);
        x.set(0, 1);
        miss(x, 6);
        due("PART 1", x.as(4, 1, 3), 540);
        x.set(0, 50);
        miss(x, 6);
        due("PART 50: just the FULL one", x.as(5, 1, 3), 27027);
        x.set(0, 49);
        miss(x, 6);
        due("PART 49", x.as(6, 1, 3), 26486);
        x.set(0, 100);
        miss(x, 6);
        due("PART 100", x.as(7, 1, 3), 27027);
    }

    private static void atLeastOne() {
        TimeBench x = missing(1, 0);
        TimeBench y = pair(0, 2, 1);
        y.set(0, 1);
        hours(y, 0, 0);
        // FULL WEIGHTS 1 and 1: 1 in a hundred of 2 is nothing.
        due("at least 1", y.as(1, 1, 3), 1);
        due("at least 1", y.as(1, 0, 3), 1);
        due("their sum", y.paper(1, 2), 2);
        TimeBench z = missing(1, 707);
        due("weight(1)", z.weight(1), 2);
        z.set(0, 1);
        z.close();
        due("1 in a hundred of 2 is 1, not 2", z.as(2, 0, 3), 1);
        x.put(3, 0, 2, 1);
        x.put(4, 4, 0, 3);
        x.take(3);
        x.read(4, 0);
        x.read(2, 0);
        due("close()", x.close(), 3);
        due("0 stays 0", x.as(2, 3, 3), 0);
        due("40 of 2000000", x.as(2, 0, 3), 800000);
        due("sum", x.paper(2, 2), 1600000);
    }

    private static void ofThosePresent() {
        TimeBench x = missing(1, 0);
        x.close();
        // ROOT alone, MISSED 0: 40 in a hundred of 1000000, not of 2000000.
        due("as(2, 0, 3)", x.as(2, 0, 3), 400000);
        due("as(2, 1, 3)", x.as(2, 1, 3), 0);
    }

    private static void allWeightsZero() {
        TimeBench x = pair(0, 2, 1);
        hours(x, -77);
        due("X of ROOT", x.as(0, 0, 0), 0);
        due("X of 1", x.as(0, 1, 0), -77);
        due("the sum", x.paper(0, 2), 0);
        due("the REST", x.paper(0, 3), 0);
    }

    private static void paperDownwards() {
        int[][] rows = {{1, -1, 1, 0}, {-1, 0, 1, -1}, {2, -1, 0, 1}, {-2, 1, 0, -1}, {0, 0, 0, 0}, {3, -2, 1, 1}};
        for (int[] r : rows) {
            TimeBench x = pair(0, 2, 1);
            hours(x, 0, r[0]);
            due("WIRE " + r[0] + ": X of ROOT", x.as(1, 0, 0), r[1]);
            due("WIRE " + r[0] + ": REST", x.paper(1, 3), r[2]);
            due("WIRE " + r[0] + ": X of 1", x.as(1, 1, 0), r[3]);
        }
    }

    // ---- Terms 3

    private static void withoutAny() {
        for (int sign = -1; sign <= 1; sign += 2) {
            due("MISSED 5 at first", missing(3, 5 * sign).clock(1, 2), 0);
            due("MISSED 6 at first", missing(3, 6 * sign).clock(1, 2), 1);
        }
        // One that MISSED nothing since it was TAKEN last.
        TimeBench x = missing(12, 4, 4, 4);
        x.take(0);
        x.take(1);
        hours(x, 0);
        miss(x, 6);
        due("anew", x.clock(1, 2), 1);
    }

    private static void meanDownwards() {
        // 0 and 5, by 2: 2, so 5 times 3.
        due("MISSED 15", missing(3, 0, 5, 15).clock(1, 2), 0);
        due("MISSED 16", missing(3, 0, 5, 16).clock(1, 2), 1);
        // Amounts: -4 and 5, by 2: 4, so 5 times 5.
        due("MISSED -25", missing(3, -4, 5, -25).clock(1, 2), 0);
        due("MISSED -26", missing(3, -4, 5, -26).clock(1, 2), 1);
    }

    private static void meanOfTheReach() {
        // REACH 1: only what was MISSED at h - 1 counts: 0 at hour 2 or 5 at hour 1.
        due("REACH 1, MISSED 6", missing(1, 5, 0, 6).clock(1, 2), 1);
        due("REACH 2, MISSED 15", missing(2, 5, 0, 15).clock(1, 2), 0);
        due("REACH 2, MISSED 16", missing(2, 5, 0, 16).clock(1, 2), 1);
        due("REACH 3, MISSED 5", missing(3, 5, 0, 0, 10).clock(1, 2), 0);
        due("REACH 2, MISSED 10", missing(2, 5, 0, 0, 10).clock(1, 2), 1);
        int[] first = {24, 0, 0, 0, 0, 0, 0, 0, 0, 0, 0, 0, 15};
        // 24 is SUSPECT at hour 1 itself; by 12 it makes A 2 at hour 13.
        due("REACH 12, MISSED 15", missing(12, first).clock(1, 2), 0);
        due("REACH 11, MISSED 15", missing(11, first).clock(1, 2), 1);
    }

    private static void aboveTimes() {
        int[] times = {2, 3, 20};
        for (int t : times) {
            for (int more = 0; more <= 1; more++) {
                TimeBench x = pair(0, 2, 1);
                due("set(1, " + t + ")", x.set(1, t), true);
                hours(x, 0);
                miss(x, 1, 2 * t + more);
                due("TIMES " + t + ", " + more + " above", x.clock(1, 2), more);
                due("of ROOT", x.clock(0, 2), more);
            }
        }
    }

    private static void suspectIsNotAsked() {
        TimeBench x = missing(1, 0, 6, -300);
        due("SUSPECT at 2, not asked at 3", x.clock(1, 2), 0);
        due("another sign: no STEP", x.clock(1, 7), 0);
        due("not OUT", x.clock(1, 1), 0);
        // A is 300: 1505 is not above 5 times 301.
        miss(x, 1505);
        due("asked again", x.clock(1, 2), 0);
        TimeBench y = missing(1, 0, 6, -300, 1506);
        due("asked again, above", y.clock(1, 2), 1);
        TimeBench z = missing(1, 0, 40, 19, 101);
        due("too little for a STEP", z.clock(1, 7), 0);
        due("SUSPECT at 4 by A 19", z.clock(1, 2), 1);
    }

    private static void atLeastHalf() {
        int[][] rows = {{51, 25, 0}, {51, 26, 1}, {50, 24, 0}, {50, 25, 1}, {-51, -25, 0}, {-51, -26, 1}, {-50, -24, 0},
            {-50, -25, 1}, {51, -26, 0}, {-51, 26, 0}, {51, 0, 0}, {51, -51, 0}, {6, 3, 1}, {7, 3, 0}, {7, 4, 1}};
        for (int[] r : rows) {
            TimeBench x = missing(3, 0, r[0], r[1]);
            due("MISSED " + r[0] + ", " + r[1] + ": OUT", x.clock(1, 1), r[2]);
            due("STEPS", x.clock(1, 7), r[2]);
            due("its hour", x.step(0, 0), r[2] == 1 ? 2 : NONE);
            due("MISSED at it", x.step(1, 2), r[2] == 1 ? r[0] : NONE);
        }
    }

    private static void suspectAtTheHourAhead() {
        TimeBench x = missing(3, 0, 50);
        due("SUSPECT", x.clock(1, 2), 1);
        x.close();
        due("not SUSPECT at the hour without X", x.clock(1, 2), 0);
        due("of ROOT, which is PRESENT alone", x.clock(0, 2), 0);
        // FORETOLD are -150 and 50, of like WEIGHT: 0 is at -250, 1 at 150.
        hours(x, 400);
        due("MISSED", x.as(4, 1, 2), 100);
        due("no STEP of hour 2", x.clock(1, 7), 0);
        TimeBench y = missing(3, 0, 50);
        y.take(1);
        hours(y, 0, 0);
        due("TAKEN anew: no STEP", y.clock(1, 7), 0);
    }

    private static void outUntilTaken() {
        TimeBench x = missing(3, 0, 50, 50);
        due("OUT", x.clock(1, 1), 1);
        due("WEIGHT at the hour of the STEP", x.as(2, 1, 3) > 0, true);
        due("WEIGHT at the hour behind it", x.as(3, 1, 3) > 0, true);
        x.leave(1);
        due("leave(1)", x.clock(1, 1), 1);
        hours(x, 0, 0);
        due("hours go by", x.clock(1, 1), 1);
        due("WEIGHT", x.as(4, 0, 3), 0);
        due("take(1)", x.take(1), 1);
        due("TAKEN anew", x.clock(1, 1), 0);
        due("the other is OUT still", x.clock(0, 1), 1);
        due("its STEPS stay", x.clock(1, 7), 1);
    }

    private static void outIsNotJudged() {
        TimeBench x = missing(3, 0, 50, 50);
        // X of 1 is what is read: FORETOLD are 200, 0, and the line of the two hours ahead.
        hours(x, 5000);
        due("not SUSPECT", x.clock(1, 2), 0);
        hours(x, 10000, -10000);
        due("no further STEP", x.clock(1, 7), 1);
        TimeBench y = freed(0, 2, 3);
        hours(y, 0, 0, 1, 4, 10, 20, 35, 56);
        due("MISSED 5, then 6", y.as(11, 1, 2), 6);
        due("no DRIFT", y.clock(1, 8), 0);
    }

    private static void stepWithoutForetold() {
        TimeBench x = missing(3, 0, 50);
        emptyHours(x, 2);
        hours(x, 10000);
        // Without an X in the SPAN it has no FORETOLD, so it MISSED nothing.
        due("no MISSED", x.as(5, 1, 2), UNKNOWN);
        due("not SUSPECT", x.clock(1, 2), 0);
    }

    private static void driftOfFourHours() {
        drifted(0, 1, 2, 3);
        drifted(1, 1, 2, 3, 4);
        drifted(2, 1, 2, 3, 4, 5);
        drifted(1, 5, 6, 7, 8, 8);
        drifted(0, 1, 2, 3, 3);
        drifted(0, 1, 2, 2, 3);
        drifted(0, 2, 2, 3, 4);
        drifted(0, 1, 2, 3, 2);
        drifted(0, 1, -2, 3, -4);
        drifted(0, -1, 2, 3, 4);
        drifted(0, 1, 2, 3, -4);
        drifted(0, 0, 1, 2, 3);
        drifted(1, 0, 1, 2, 3, 4);
        due("REACH 1", missing(1, 1, 2, 3, 4).clock(1, 8), 1);
        TimeBench x = missing(12, 1, 2, 3);
        x.take(1);
        x.take(0);
        hours(x, 0);
        miss(x, 4);
        due("TAKEN between", x.clock(1, 8), 0);
        TimeBench y = missing(12, 1, 2);
        y.close();
        // FORETOLD are -10 and 4, then -19 and 7, of like WEIGHTS.
        hours(y, 20, 34);
        due("MISSED at 4", y.as(4, 1, 2), 3);
        due("MISSED at 5", y.as(5, 1, 2), 4);
        due("an hour between without MISSED", y.clock(1, 8), 0);
    }

    /** 0 MISSED as much as 1, with the other sign; both ways round. */
    private static void drifted(int want, int... amounts) {
        int[] turned = new int[amounts.length];
        for (int i = 0; i < amounts.length; i++) {
            turned[i] = -amounts[i];
        }
        for (int p = 0; p <= 1; p++) {
            String told = java.util.Arrays.toString(amounts) + " or turned: clock(" + p + ", 8)";
            due(told, missing(12, amounts).clock(p, 8), want);
            due(told, missing(12, turned).clock(p, 8), want);
        }
    }

    private static void scaleComesNearer() {
        int[][] rows = {{10, 25, 15}, {10, 11, 1}, {10, 10, 0}, {10, 9, 0}, {10, 0, 0}, {10, -9, 0}, {10, -10, 0}, {10, -11, -1},
            {0, 25, 25}, {0, -25, -25}, {3599, 1000000, 996401}, {3599, -1000000, -996401}, {3599, 3598, 0}, {3599, -3600, -1}};
        for (int[] r : rows) {
            TimeBench x = pair(0, 2, 1);
            if (r[0] != 10) {
                due("set(2, " + r[0] + ")", x.set(2, r[0]), true);
            }
            x.show(r[1]);
            x.close();
            due("PACE " + r[0] + ", OFF by " + r[1], x.off(), r[2]);
            due("paper(0, 4)", x.paper(0, 4), r[2]);
        }
        TimeBench y = new TimeBench();
        y.show(25);
        y.close();
        due("an hour without ROOT", y.off(), 15);
    }

    // ---- Promises

    private static void putNoKind() {
        TimeBench x = pair(0, 2, 1);
        for (int kind : new int[] {-1, 8, 9, MIN, MAX}) {
            due("put(5, " + kind + ", 2, 2)", x.put(5, kind, 2, 2), NONE);
            due("put(5, " + kind + ", 0, 1)", x.put(5, kind, 0, 1), NONE);
            due("kind(5)", x.kind(5), NONE);
        }
        due("put(5, 0, 2, 2)", x.put(5, 0, 2, 2), 5);
        due("put(6, 7, -5, 999), a LAMP", x.put(6, 7, MIN, MAX), 6);
    }

    private static void putWhereSomethingLies() {
        TimeBench x = pair(0, 2, 1);
        x.put(3, 7, 0, 0);
        for (int p = 0; p <= 3; p++) {
            int kind = x.kind(p);
            due("a CLOCK", x.put(p, 0, 2, 2), NONE);
            due("a LINK", x.put(p, 4, 0, 1), NONE);
            due("a LAMP", x.put(p, 7, 0, 0), NONE);
            due("it stays", x.kind(p), kind);
        }
        due("SPAN stays", x.clock(0, 6), 1);
        due("TAKEN stays", x.clock(0, 0), 1);
    }

    private static void putLinkOfTwo() {
        TimeBench x = new TimeBench();
        x.put(0, 0, 2, 1);
        x.put(22, 7, 0, 0);
        x.put(23, 3, 2, 1);
        x.put(21, 4, 0, 23);
        int[] bad = {21, 22, 5, 20, -1, 24, MIN, MAX};
        for (int kind = 4; kind <= 6; kind++) {
            for (int b : bad) {
                due("put(5, " + kind + ", " + b + ", 0)", x.put(5, kind, b, 0), NONE);
                due("put(5, " + kind + ", 0, " + b + ")", x.put(5, kind, 0, b), NONE);
                due("put(5, " + kind + ", " + b + ", " + b + ")", x.put(5, kind, b, b), NONE);
            }
            due("put(5, " + kind + ", 0, 0)", x.put(5, kind, 0, 0), NONE);
            due("put(5, " + kind + ", 23, 23)", x.put(5, kind, 23, 23), NONE);
            due("kind(5)", x.kind(5), NONE);
            due("put(5, " + kind + ", 23, 0)", x.put(5, kind, 23, 0), 5);
            due("lift(5)", x.lift(5), kind);
        }
    }

    private static void liftOfLinked() {
        TimeBench x = pair(0, 2, 1);
        x.put(3, 6, 1, 0);
        x.put(4, 0, 2, 1);
        due("lift(4)", x.lift(4), 0);
        due("FIRST", x.lift(0), WRONG);
        due("SECOND", x.lift(1), WRONG);
        due("lift(2)", x.lift(2), 4);
        due("another LINK", x.lift(0), WRONG);
        due("another LINK", x.lift(1), WRONG);
        due("TAKEN still", x.clock(0, 0), 1);
        due("lift(3)", x.lift(3), 6);
        due("lift(0)", x.lift(0), 0);
        due("lift(0) again", x.lift(0), NONE);
        due("kind(0)", x.kind(0), NONE);
        due("lift(1)", x.lift(1), 0);
    }

    private static void closedHoursStay() {
        TimeBench x = missing(3, 0, 50, 50);
        for (int p = 2; p >= 0; p--) {
            x.lift(p);
        }
        due("as(3, 1, 2)", x.as(3, 1, 2), 50);
        due("as(2, 1, 0)", x.as(2, 1, 0), 50);
        due("paper(3, 1)", x.paper(3, 1), 2);
        due("step(1, 1)", x.step(1, 1), 1);
        x.put(1, 3, 5, 5);
        due("another in its PLACE", x.as(3, 1, 2), 50);
        due("whose X's are none", x.clock(1, 3), 0);
        due("which is not OUT", x.clock(1, 1), 0);
        due("STEPS since it lies there", x.clock(1, 7), 0);
        x.take(1);
        x.call(1, true);
        x.close();
        due("as(4, 1, 1)", x.as(4, 1, 1), UNKNOWN);
    }

    private static void readOutOfBounds() {
        TimeBench x = pair(0, 2, 1);
        due("read(2, 10001)", x.read(2, 10001), NONE);
        due("read(2, -10001)", x.read(2, -10001), NONE);
        due("nothing is read", x.tells(2, 0), UNTOLD);
        due("tear(2)", x.tear(2), 0);
        due("read(2, 10000)", x.read(2, 10000), 1);
        due("read(2, -10000)", x.read(2, -10000), 1);
    }

    private static void backBounds() {
        TimeBench x = pair(0, 2, 1);
        x.put(3, 6, 0, 1);
        for (int v : new int[] {10001, -10001, MIN, MAX}) {
            due("back(3, " + v + ")", x.back(3, v), NONE);
        }
        due("nothing is read", x.tear(3), 0);
        x.read(3, 0);
        due("back(3, 10000)", x.back(3, 10000), 1);
        due("tells(3, 0)", x.tells(3, 0), 1250);
        due("back(3, -10000)", x.back(3, -10000), 1);
        due("tells(3, 0)", x.tells(3, 0), -1250);
        due("back(2, 0) of a WIRE", x.back(2, 0), WRONG);
        due("back(4, 0) of nothing", x.back(4, 0), NONE);
    }

    private static void hoursWithReading() {
        TimeBench x = pair(0, 2, 1);
        x.put(3, 6, 0, 1);
        due("none", x.tear(2), 0);
        due("none", x.tear(3), 0);
        x.read(3, 1);
        x.close();
        x.back(3, 1);
        x.read(2, 1);
        x.read(2, 2);
        x.close();
        x.read(3, 1);
        x.back(3, 1);
        due("read twice in one hour", x.tear(2), 1);
        due("THERE, BACK, both", x.tear(3), 3);
        due("none", x.tear(3), 0);
        TimeBench y = pair(0, 2, 1);
        for (int h = 0; h <= 200; h++) {
            y.read(2, h);
            y.close();
        }
        due("all hours", y.tear(2), 201);
    }

    private static void wayBounds() {
        TimeBench x = pair(0, 2, 1);
        x.put(3, 5, 0, 1);
        x.read(3, 0);
        due("way(3, 10000)", x.way(3, 10000), 1);
        due("tells(3, 0)", x.tells(3, 0), -10000);
        for (int v : new int[] {10001, -10001, MIN, MAX}) {
            due("way(3, " + v + ")", x.way(3, v), NONE);
            due("it stays", x.tells(3, 0), -10000);
        }
        due("way(3, -10000)", x.way(3, -10000), 1);
        due("tells(3, 0)", x.tells(3, 0), 10000);
    }

    private static void hoursThatAreNot(java.util.function.IntUnaryOperator call, int atNow, int none) {
        due("at THE HOUR", call.applyAsInt(1), atNow);
        for (int hour : new int[] {-1, 2, 200, 201, MIN, MAX}) {
            due("at " + hour, call.applyAsInt(hour), none);
        }
    }

    private static void tellsHours() {
        TimeBench x = pair(0, 2, 1);
        hours(x, 4);
        due("nothing", x.tells(2, 1), UNTOLD);
        x.read(2, 5);
        due("hour 0", x.tells(2, 0), 4);
        hoursThatAreNot(hour -> x.tells(2, hour), 5, UNTOLD);
    }

    private static void differenceHours() {
        TimeBench x = pair(0, 2, 1);
        hours(x, 4);
        due("without one", x.difference(0, 1, 1), UNTOLD);
        x.read(2, 5);
        due("hour 0", x.difference(0, 1, 0), 4);
        hoursThatAreNot(hour -> x.difference(0, 1, hour), 5, UNTOLD);
        hoursThatAreNot(hour -> x.difference(1, 0, hour), -5, UNTOLD);
        hoursThatAreNot(hour -> x.difference(1, 1, hour), 0, UNTOLD);
    }

    private static void alongHours() {
        TimeBench x = pair(0, 2, 1);
        hours(x, 4);
        due("without a way", x.along(0, 1, 1), NONE);
        x.read(2, 5);
        due("hour 0", x.along(0, 1, 0), 1);
        hoursThatAreNot(hour -> x.along(0, 1, hour), 1, NONE);
        hoursThatAreNot(hour -> x.along(1, 0, hour), 1, NONE);
        hoursThatAreNot(hour -> x.along(1, 1, hour), 0, NONE);
    }

    private static void linkOfTheWay() {
        TimeBench x = linked(new int[] {9, 0, 1, 1}, new int[] {8, 1, 2, 1});
        due("before any along()", x.link(0), NONE);
        due("along(0, 2, 0)", x.along(0, 2, 0), 2);
        due("link(0)", x.link(0), 9);
        due("link(1)", x.link(1), 8);
        for (int i : new int[] {2, 3, 24, -1, MIN, MAX}) {
            due("link(" + i + ")", x.link(i), NONE);
        }
        due("along(2, 1, 0), the latest", x.along(2, 1, 0), 1);
        due("link(0)", x.link(0), 8);
        due("link(1) of the one before", x.link(1), NONE);
        due("along(3, 3, 0)", x.along(3, 3, 0), 0);
        due("link(0)", x.link(0), NONE);
    }

    private static void takenAnew() {
        TimeBench x = missing(3, 0, 50);
        due("SUSPECT", x.clock(1, 2), 1);
        due("X's", x.clock(1, 3), 3);
        due("take(1)", x.take(1), 1);
        due("SUSPECT", x.clock(1, 2), 0);
        due("X's", x.clock(1, 3), 0);
        due("foretell(1)", x.foretell(1), UNKNOWN);
        due("slope(1, 0)", x.slope(1, 0), UNKNOWN);
        due("weight(1)", x.weight(1), 0);
        due("take(1) again", x.take(1), 1);
        TimeBench y = missing(3, 0, 50, 50);
        due("OUT", y.clock(1, 1), 1);
        y.take(1);
        due("OUT", y.clock(1, 1), 0);
        hours(y, 7);
        due("MISSED nothing", y.as(4, 1, 2), UNKNOWN);
        due("one X", y.clock(1, 3), 1);
        due("FULL WEIGHT of none MISSED", y.weight(1), 1);
        due("as(3, 1, 2) stays", y.as(3, 1, 2), 50);
    }

    private static void leaveTwice() {
        TimeBench x = pair(0, 2, 1);
        due("leave(1)", x.leave(1), 1);
        due("leave(1) again", x.leave(1), 0);
        due("clock(1, 0)", x.clock(1, 0), 0);
        due("take(1)", x.take(1), 1);
        due("leave(1)", x.leave(1), 1);
    }

    private static void callSpare() {
        TimeBench x = new TimeBench();
        for (int p = 0; p <= 3; p++) {
            x.put(p, p, 2, 1);
            x.take(p);
            for (int i = 0; i < 2; i++) {
                due("call(" + p + ", true)", x.call(p, true), p == 3 ? 1 : WRONG);
                due("clock(" + p + ", 0)", x.clock(p, 0), 1);
            }
            for (int i = 0; i < 2; i++) {
                due("call(" + p + ", false)", x.call(p, false), p == 3 ? 1 : WRONG);
                due("clock(" + p + ", 0)", x.clock(p, 0), p == 3 ? 0 : 1);
            }
        }
    }

    private static void steerBounds() {
        for (int kind = 1; kind <= 3; kind += 2) {
            TimeBench x = new TimeBench();
            x.put(0, kind, 2, 1);
            for (int sign = 1; sign >= -1; sign -= 2) {
                for (int v : new int[] {10001, MAX, -10001, MIN}) {
                    due("steer(0, " + v + ")", x.steer(0, v), UNTOLD);
                    due("clock(0, 4)", x.clock(0, 4), 0);
                }
                for (int i = 1; i <= 9; i++) {
                    due("steer", x.steer(0, sign * 10000), sign * i * 10000);
                }
                due("steer to the last but one", x.steer(0, sign * 9999), sign * 99999);
                due("beyond by 1", x.steer(0, sign * 2), UNTOLD);
                due("beyond by 9999", x.steer(0, sign * 10000), UNTOLD);
                due("it stays", x.clock(0, 4), sign * 99999);
                due("just", x.steer(0, sign), sign * 100000);
                due("by 1 more", x.steer(0, sign), UNTOLD);
                due("by nothing", x.steer(0, 0), sign * 100000);
                for (int i = 9; i >= 0; i--) {
                    due("steer back", x.steer(0, sign * -10000), sign * i * 10000);
                }
            }
        }
    }

    private static void setBounds() {
        TimeBench x = pair(0, 2, 1);
        int[][] bounds = {{0, 1, 100}, {1, 2, 20}, {2, 0, 3599}};
        for (int[] b : bounds) {
            for (int v : new int[] {b[1] - 1, b[2] + 1, MIN, MAX}) {
                due("set(" + b[0] + ", " + v + ")", x.set(b[0], v), false);
            }
            due("set(" + b[0] + ", " + b[1] + ")", x.set(b[0], b[1]), true);
            due("set(" + b[0] + ", " + b[2] + ")", x.set(b[0], b[2]), true);
        }
        for (int what : new int[] {-1, 3, MIN, MAX}) {
            due("set(" + what + ", 10)", x.set(what, 10), false);
        }
        x.set(0, 101);
        x.set(0, 0);
        x.set(2, 3600);
        x.show(4000);
        x.close();
        due("PART is 100 still", x.paper(0, 5), 100);
        due("PACE is 3599 still", x.off(), 401);
        // TIMES 20 still: 20 times (0 and 1).
        x.take(0);
        x.take(1);
        hours(x, 0);
        miss(x, 20);
        due("MISSED 20", x.clock(1, 2), 0);
    }

    private static void setFromNowOn() {
        TimeBench x = pair(0, 2, 1);
        hours(x, 0);
        x.set(0, 7);
        due("the PART then", x.paper(0, 5), 40);
        hours(x, 0);
        due("the PART from then on", x.paper(1, 5), 7);
    }

    private static void closeAtLast() {
        TimeBench x = pair(0, 2, 1);
        for (int h = 0; h < 199; h++) {
            x.close();
        }
        x.read(2, 0);
        due("close() at 199", x.close(), 2);
        x.show(500);
        x.read(2, 0);
        int xs = x.clock(1, 3);
        due("close() at 200", x.close(), NONE);
        due("close() at 200 again", x.close(), NONE);
        due("hour()", x.hour(), 200);
        due("off()", x.off(), 500);
        due("X's", x.clock(1, 3), xs);
        due("paper(200, 0)", x.paper(200, 0), NONE);
        due("as(200, 0, 0)", x.as(200, 0, 0), UNKNOWN);
        due("as(199, 1, 4)", x.as(199, 1, 4), 0);
        due("paper(199, 1)", x.paper(199, 1), 2);
        due("read(2, 9) at 200", x.read(2, 9), 1);
        due("tells(2, 200)", x.tells(2, 200), 9);
        due("difference(0, 1, 200)", x.difference(0, 1, 200), 9);
        due("difference(0, 1, 201)", x.difference(0, 1, 201), UNTOLD);
        due("foretell(1) for hour 200", x.foretell(1), 0);
    }

    private static void clockAnotherWhat() {
        TimeBench x = pair(0, 2, 1);
        for (int what : new int[] {-1, 9, 10, MIN, MAX}) {
            due("clock(0, " + what + ")", x.clock(0, what), NONE);
            due("clock(2, " + what + ")", x.clock(2, what), WRONG);
        }
        for (int what = 0; what <= 8; what++) {
            due("clock(0, " + what + ")", x.clock(0, what), what == 0 || what == 6 ? 1 : what == 5 ? 2 : 0);
        }
    }

    private static void sinceItLiesThere() {
        // 20 is SUSPECT at hour 4 by A 2, and 21 makes it a STEP; both are more than the time ahead.
        TimeBench x = missing(12, 1, 2, 3, 20, 21);
        due("STEPS", x.clock(1, 7), 1);
        due("hours it DRIFTED", x.clock(1, 8), 2);
        x.take(1);
        due("STEPS of one TAKEN anew", x.clock(1, 7), 1);
        due("hours it DRIFTED, TAKEN anew", x.clock(1, 8), 2);
        x.lift(2);
        x.lift(1);
        x.put(1, 0, 2, 12);
        due("STEPS of another", x.clock(1, 7), 0);
        due("hours that another DRIFTED", x.clock(1, 8), 0);
    }

    private static void settingOfOneWithout() {
        TimeBench x = new TimeBench();
        for (int p = 0; p <= 3; p++) {
            x.put(p, p, 2, 1);
            x.steer(p, 77);
            due("clock(" + p + ", 4)", x.clock(p, 4), p % 2 == 1 ? 77 : 0);
        }
    }

    private static void suspectAtFirst() {
        TimeBench x = pair(0, 2, 1);
        due("at hour 0", x.clock(1, 2), 0);
        hours(x, 0);
        due("at hour 1", x.clock(1, 2), 0);
        miss(x, 6);
        due("at the hour ahead", x.clock(1, 2), 1);
        miss(x, 0);
        due("an hour later", x.clock(1, 2), 0);
    }

    private static void foretellWithoutOne() {
        TimeBench x = pair(0, 2, 1);
        due("foretell(0)", x.foretell(0), UNKNOWN);
        hours(x, 6);
        due("foretell(0)", x.foretell(0), 0);
        due("foretell(1)", x.foretell(1), 6);
        emptyHours(x, 2);
        due("beyond the SPAN", x.foretell(1), UNKNOWN);
        due("foretell(0), which was PRESENT", x.foretell(0), 0);
    }

    private static void slopeOfOne() {
        TimeBench x = freed(0, 3, 1);
        emptyHours(x, 3);
        due("no X: ABOVE", x.slope(1, 0), UNKNOWN);
        due("no X: BELOW", x.slope(1, 1), UNKNOWN);
        hours(x, -123);
        due("one X: ABOVE", x.slope(1, 0), 0);
        due("one X: BELOW", x.slope(1, 1), 1);
        hours(x, -123);
        due("level: ABOVE", x.slope(1, 0), 0);
        due("level: BELOW", x.slope(1, 1), 1);
        hours(x, -124);
        due("ABOVE", x.slope(1, 0), -1);
        due("BELOW", x.slope(1, 1), 2);
        hours(x, -129, -130);
        due("in lowest terms: ABOVE", x.slope(1, 0), -3);
        due("in lowest terms: BELOW", x.slope(1, 1), 1);
    }

    private static void slopeAnotherWhat() {
        TimeBench x = pair(0, 3, 1);
        for (int what : new int[] {-1, 2, MIN, MAX}) {
            due("no X: slope(1, " + what + ")", x.slope(1, what), NONE);
        }
        hours(x, 1);
        for (int what : new int[] {-1, 2, MIN, MAX}) {
            due("slope(1, " + what + ")", x.slope(1, what), NONE);
        }
    }

    /** 5 is taken up to the runaway one's billion; then 0, which MISSED nothing and stands at 0, outweighs it. */
    private static void slopeIsCut() {
        for (int sign = -1; sign <= 1; sign += 2) {
            TimeBench x = runaway(sign);
            x.close();
            x.put(5, 0, 12, 1);
            x.put(6, 5, 1, 5);
            x.put(7, 4, 0, 5);
            x.take(5);
            x.way(6, -10000 * sign);
            x.read(6, 10000 * sign);
            x.close();
            due("X of 5", x.as(184, 5, 0), sign * 1000020000);
            x.leave(1);
            for (int i = 0; i < 10; i++) {
                x.steer(0, 10000 * sign);
            }
            x.take(0);
            emptyHours(x, 2);
            x.read(7, -1);
            x.close();
            due("its one X is cut, too", x.as(187, 5, 1), sign * 1000000000);
            // 1000000001 or -999999999 by 400001, downwards, less 1.
            due("X of 5", x.as(187, 5, 0), sign > 0 ? 2498 : -2501);
            // -1000017502 or 1000017499 by 3.
            due("ABOVE", x.slope(5, 0), sign * -1000000000);
            due("BELOW", x.slope(5, 1), 3);
            due("it is FORETOLD by the whole slope", x.foretell(5), sign > 0 ? -333336670 : 333336665);
        }
    }

    private static void asAnotherWhat() {
        TimeBench x = pair(0, 2, 1);
        hours(x, 6);
        for (int what : new int[] {-1, 5, MIN, MAX}) {
            due("as(0, 1, " + what + ")", x.as(0, 1, what), NONE);
        }
    }

    private static void asWithout() {
        TimeBench x = pair(0, 2, 1);
        hours(x, 6);
        x.close();
        for (int what : new int[] {0, 1, 2, 4}) {
            due("not PRESENT", x.as(1, 1, what), UNKNOWN);
            due("nothing lies there", x.as(0, 9, what), UNKNOWN);
            due("a LINK lies there", x.as(0, 2, what), UNKNOWN);
        }
        due("no FORETOLD", x.as(0, 1, 1), UNKNOWN);
        due("no MISSED", x.as(0, 1, 2), UNKNOWN);
        due("not PRESENT: no WEIGHT", x.as(1, 1, 3), 0);
        due("no FORETOLD: no WEIGHT", x.as(0, 1, 3), 0);
        for (int hour : new int[] {-1, 2, 199, 200, 201, MIN, MAX}) {
            for (int what = 0; what <= 4; what++) {
                due("hour " + hour + ", what " + what, x.as(hour, 1, what), UNKNOWN);
            }
        }
        for (int p : new int[] {-1, 24, MIN, MAX}) {
            for (int what = 0; what <= 4; what++) {
                due("place " + p + ", what " + what, x.as(0, p, what), UNKNOWN);
            }
        }
    }

    private static void paperNone() {
        TimeBench x = pair(0, 2, 1);
        hours(x, 6);
        for (int what : new int[] {-1, 6, MIN, MAX}) {
            due("another what", x.paper(0, what), NONE);
        }
        for (int hour : new int[] {-1, 1, 199, 200, 201, MIN, MAX}) {
            for (int what = 0; what <= 5; what++) {
                due("hour " + hour, x.paper(hour, what), NONE);
            }
        }
        x.leave(0);
        x.leave(1);
        x.close();
        for (int what = 0; what <= 5; what++) {
            due("no ROOT", x.paper(1, what), NONE);
        }
    }

    /** Eleven clocks step ten times; 508 calls in all. */
    private static void firstHundredSteps() {
        TimeBench x = new TimeBench();
        for (int p = 0; p < 12; p++) {
            x.put(p, 0, 2, 1);
        }
        for (int p = 1; p < 12; p++) {
            x.put(11 + p, 4, 0, p);
        }
        x.take(0);
        for (int round = 0; round < 10; round++) {
            for (int p = 1; p < 12; p++) {
                x.take(p);
            }
            for (int v : new int[] {0, 1200, 4800}) {
                for (int p = 1; p < 12; p++) {
                    x.read(11 + p, p % 2 == 0 ? v : -v);
                }
                x.close();
            }
        }
        due("STEPS of 11", x.clock(11, 7), 10);
        due("the first one's PLACE", x.step(0, 1), 1);
        due("step(98, 1)", x.step(98, 1), 11);
        due("step(99, 1)", x.step(99, 1), 1);
        due("its hour", x.step(99, 0), 28);
        for (int what = 0; what <= 2; what++) {
            due("step(100, " + what + ")", x.step(100, what), NONE);
        }
        due("STEPS of 1, too", x.clock(1, 7), 10);
    }

    private static void stepsThatAreNot() {
        TimeBench x = missing(3, 0, 50);
        due("none yet", x.step(0, 0), NONE);
        miss(x, 50);
        due("step(1, 2)", x.step(1, 2), 50);
        for (int i : new int[] {-1, 2, 99, 100, MIN, MAX}) {
            due("step(" + i + ", 0)", x.step(i, 0), NONE);
        }
        for (int what : new int[] {-1, 3, MIN, MAX}) {
            due("step(0, " + what + ")", x.step(0, what), NONE);
        }
    }

    private static void showBounds() {
        TimeBench x = new TimeBench();
        due("off()", x.off(), 0);
        for (int v : new int[] {1000000, -1000000, 0, 1}) {
            due("show(" + v + ")", x.show(v), true);
            due("off()", x.off(), v);
            for (int bad : new int[] {1000001, -1000001, MIN, MAX}) {
                due("show(" + bad + ")", x.show(bad), false);
                due("it stays", x.off(), v);
            }
        }
    }

    private static void ringNotTold() {
        TimeBench x = linked(new int[] {6, 0, 1, 1}, new int[] {7, 1, 2, 20}, new int[] {8, 2, 0, 300}, new int[] {9, 2, 3, 5});
        x.put(10, 7, 0, 0);
        due("told", x.ring(0, 1, 2, 0), 321);
        due("0 - 3 by two LINKS", x.ring(0, 2, 3, 0), UNTOLD);
        due("3 - 0", x.ring(3, 0, 2, 0), UNTOLD);
        due("2 - 3 and back", x.ring(2, 3, 2, 0), UNTOLD);
        due("alike", x.ring(0, 0, 0, 0), UNTOLD);
        due("two alike", x.ring(0, 0, 1, 0), UNTOLD);
        due("two alike", x.ring(0, 1, 1, 0), UNTOLD);
        for (int p : new int[] {6, 10, 11, 23, 24, -1, MIN, MAX}) {
            due("a is " + p, x.ring(p, 1, 2, 0), UNTOLD);
            due("b is " + p, x.ring(0, p, 2, 0), UNTOLD);
            due("c is " + p, x.ring(0, 1, p, 0), UNTOLD);
        }
        for (int hour : new int[] {-1, 1, 200, 201, MIN, MAX}) {
            due("hour " + hour, x.ring(0, 1, 2, hour), UNTOLD);
        }
        for (int p = 6; p <= 8; p++) {
            TimeBench y = linked(new int[] {6, 0, 1, 1}, new int[] {7, 1, 2, 20}, new int[] {8, 2, 0, 300});
            y.tear(p);
            due("without " + p, y.ring(0, 1, 2, 0), UNTOLD);
        }
    }

    private static void ringLeastPlace() {
        TimeBench x = linked(new int[] {8, 0, 1, 1}, new int[] {7, 2, 1, 20}, new int[] {9, 2, 0, 300}, new int[] {12, 0, 1, 4000});
        x.put(6, 4, 1, 0);
        due("8, as 6 doesn't TELL", x.ring(0, 1, 2, 0), 1 - 20 + 300);
        x.read(6, -10000);
        due("6", x.ring(0, 1, 2, 0), 10000 - 20 + 300);
        due("the other way", x.ring(2, 1, 0, 0), 20 - 10000 - 300);
        x.tear(6);
        x.tear(8);
        due("12", x.ring(1, 2, 0, 0), -20 + 300 + 4000);
        x.close();
        due("of a closed hour", x.ring(0, 1, 2, 0), 4000 - 20 + 300);
    }

    private static void terms() {
        test("An object is used for at most 512 calls after it has been made", BoundariesTest::fiveHundredTwelveCalls);
        test("THE BENCH has 24 PLACES", BoundariesTest::places);
        test("in each lies nothing (at first), a LAMP, a CLOCK or a LINK.", BoundariesTest::linkInTheFirstPlace);
        test("in each lies nothing (at first)", BoundariesTest::nothingAtFirst);
        test("A CLOCK has a SPAN (2 .. 12 hours) and a REACH (1 .. 12 hours)", BoundariesTest::spanAndReach);
        test("it is TAKEN or not (at first not)", BoundariesTest::notTakenAtFirst);
        test("a SPARE one that is not CALLED counts as not TAKEN", BoundariesTest::spareNotCalled);
        test("A STEERED one (and SPARE) has a SETTING, 0 at first.", BoundariesTest::settingAtFirst);
        test("THE HOUR at hand is 0 at first, 200 at last.", BoundariesTest::hourAtFirstAndLast);
        test("each a number -10000 .. 10000", BoundariesTest::readingBounds);
        test("the latest one of an hour counts", BoundariesTest::latestReading);
        test("A LINK that is TORN has none of all its hours (it may be read again).", BoundariesTest::tornOfAllHours);
        test("It TELLS at an hour, if it has a READING there (CARRIED: both)", BoundariesTest::carriedBoth);
        test("AIR its READING less its WAY (0 at first)", BoundariesTest::wayAtFirst);
        test("CARRIED a quarter of THERE and BACK together, by 2, towards 0", BoundariesTest::towardsZero);
        test("along LINKS that TELL there: the fewest", BoundariesTest::fewestLinks);
        test("of several ways the first by the PLACES of its LINKS in their order from a on", BoundariesTest::firstByPlaces);
        test("with the other sign where a LINK is gone from SECOND to FIRST", BoundariesTest::otherSign);
        test("That of b and a is this with the other sign, its way this one turned round.", BoundariesTest::turnedRound);
        test("0 of a CLOCK and itself.", BoundariesTest::clockAndItself);
        test("the sum of what they TELL", BoundariesTest::longestWay);
        test("(SETTINGS of hours that are closed are as they were when each was closed.)", BoundariesTest::settingsOfClosedHours);
        test("ROOT is the least PLACE with a TAKEN CLOCK (without one nothing comes of it).", BoundariesTest::withoutRoot);
        test("PRESENT are the TAKEN CLOCKS that have a DIFFERENCE to ROOT (ROOT, too).", BoundariesTest::presentAreThese);
        test("from its X's of the hours h - SPAN .. h - 1", BoundariesTest::spanWindow);
        test("(those it has, since it was TAKEN last): none: none; one: that;", BoundariesTest::noneAndOne);
        test("is least, at h, downwards.", BoundariesTest::foretoldDownwards);
        test("Of an AGED one that has at least two GAINS", BoundariesTest::twoGains);
        test("(X of an hour less X of the hour ahead of it, both of these hours)", BoundariesTest::gainsOfTheseHours);
        test("and X at h - 1: X(h - 1) and the line of its GAINS", BoundariesTest::xAtTheHourAhead);
        test("What is above 1000000000, below -1000000000 is cut to that.", BoundariesTest::foretoldIsCut);
        test("X less FORETOLD (cut to -30000 .. 30000), of hours at which it had both.", BoundariesTest::missedIsCut);
        test("FULL WEIGHT: 0 without a FORETOLD;", BoundariesTest::weightWithoutForetold);
        test("(since it was TAKEN last): none: 1;", BoundariesTest::weightOfNoneMissed);
        test("else 1000000 by (1 and the sum of their squares), downwards, at least 1.", BoundariesTest::weightByMissed);
        test("from what it MISSED in the hours h - REACH .. h - 1", BoundariesTest::reachWindow);
        test("0 of one that is OUT (3).", BoundariesTest::weightOfOut);
        test("WEIGHT: the FULL one, at most the PART (percent, 40 at first) of the sum", BoundariesTest::partOfTheSum);
        test("downwards, at least 1 (0 stays 0).", BoundariesTest::atLeastOne);
        test("of all FULL WEIGHTS of those that are PRESENT", BoundariesTest::ofThosePresent);
        test("X of ROOT: 0, if all WEIGHTS are 0;", BoundariesTest::allWeightsZero);
        test("by the sum of the WEIGHTS, downwards; what is left by that is the REST.", BoundariesTest::paperDownwards);
    }

    private static void stepsAndDrifts() {
        test("of each that is PRESENT and not OUT", BoundariesTest::outIsNotJudged);
        test("with a FORETOLD: A is the sum", BoundariesTest::stepWithoutForetold);
        test("by their number, downwards (0 without any).", BoundariesTest::withoutAny);
        test("by their number, downwards", BoundariesTest::meanDownwards);
        test("A is the sum of the amounts that it MISSED in the hours h - REACH .. h - 1", BoundariesTest::meanOfTheReach);
        test("It is SUSPECT at h if the amount that it MISSED at h is above TIMES (5 at first) times (A and 1).",
            BoundariesTest::aboveTimes);
        test("If it was SUSPECT at h - 1 (then this is not asked)", BoundariesTest::suspectIsNotAsked);
        test("and MISSED with the same sign at h at least half (upwards) of what it MISSED at h - 1",
            BoundariesTest::atLeastHalf);
        test("If it was SUSPECT at h - 1", BoundariesTest::suspectAtTheHourAhead);
        test("it is OUT from h + 1 on, until it is TAKEN anew.", BoundariesTest::outUntilTaken);
        test("It DRIFTS at h if it MISSED in h - 3 .. h with one sign, each time more (in amount) than the time ahead.",
            BoundariesTest::driftOfFourHours);
        test("this comes nearer to 0 by the PACE (0 .. 3599, 10 at first), or as much as there is.",
            BoundariesTest::scaleComesNearer);
    }

    private static void promisesOfPlaces() {
        test("no such KIND;", BoundariesTest::putNoKind);
        test("NONE: no such PLACE, or something lies there;", BoundariesTest::putWhereSomethingLies);
        test("a, b no two unlike PLACES with CLOCKS.", BoundariesTest::putLinkOfTwo);
        test("WRONG: a CLOCK of which a LINK is.", BoundariesTest::liftOfLinked);
        test("(What is told of closed hours stays.)", BoundariesTest::closedHoursStay);
        test("1. NONE, too: v is not -10000 .. 10000.", BoundariesTest::readOutOfBounds);
        test("WRONG: another one. NONE likewise.", BoundariesTest::backBounds);
        test("how many hours had a READING (CARRIED: THERE or BACK).", BoundariesTest::hoursWithReading);
        test("An AIR's WAY is v from now on, of all hours: 1. NONE, too: v is not -10000 .. 10000.", BoundariesTest::wayBounds);
        test("1000000 if nothing (an hour below 0, above THE HOUR, too).", BoundariesTest::tellsHours);
        test("1000000 without one (an hour below 0, above THE HOUR, too).", BoundariesTest::differenceHours);
        test("NONE without a way, too.", BoundariesTest::alongHours);
        test("from 0 on; NONE without it.", BoundariesTest::linkOfTheWay);
        test("it has no X, MISSED nothing, is not OUT or SUSPECT: 1.", BoundariesTest::takenAnew);
        test("A CLOCK is TAKEN no more: 1; 0 if it was not.", BoundariesTest::leaveTwice);
        test("A SPARE CLOCK is CALLED (on), or no more: 1. WRONG: another one.", BoundariesTest::callSpare);
        test("1000000, changing nothing: v is not -10000 .. 10000, or it would not be -100000 .. 100000.",
            BoundariesTest::steerBounds);
    }

    private static void promisesOfHours() {
        test("What 0: the PART (1 .. 100), 1: TIMES (2 .. 20), 2: the PACE", BoundariesTest::setBounds);
        test("is v from now on: true; false for others.", BoundariesTest::setFromNowOn);
        test("NONE, and nothing happens: it is 200.", BoundariesTest::closeAtLast);
        test("(7, 8: since it lies there).", BoundariesTest::sinceItLiesThere);
        test("8 how many hours it DRIFTED (7, 8: since it lies there). NONE for another what.", BoundariesTest::clockAnotherWhat);
        test("4 the SETTING (0 of one that has none);", BoundariesTest::settingOfOneWithout);
        test("2: 1 if it was SUSPECT at the hour ahead;", BoundariesTest::suspectAtFirst);
        test("What would be FORETOLD of a CLOCK for THE HOUR; 2000000000 without one.", BoundariesTest::foretellWithoutOne);
        test("in lowest terms, BELOW above 0; 0 by 1 of one X alone.", BoundariesTest::slopeOfOne);
        test("2000000000 without any X; NONE for another what.", BoundariesTest::slopeAnotherWhat);
        test("(ABOVE is cut to -1000000000 .. 1000000000 then.)", BoundariesTest::slopeIsCut);
        test("or no such PLACE; NONE for another what.", BoundariesTest::asAnotherWhat);
        test("2000000000 if it was not PRESENT, or had none such (3: 0), no such hour was CLOSED, or no such PLACE;",
            BoundariesTest::asWithout);
        test("NONE for another what, no ROOT, an hour that was not CLOSED.", BoundariesTest::paperNone);
        test("NONE if there is none such (the first 100 are kept).", BoundariesTest::firstHundredSteps);
        test("NONE if there is none such", BoundariesTest::stepsThatAreNot);
        test("true; false, and it stays, if v is not -1000000 .. 1000000.", BoundariesTest::showBounds);
        test("1000000 if one of the three is not told so, or the PLACES are not three CLOCKS.", BoundariesTest::ringNotTold);
        test("(the least PLACE that TELLS, of several between two CLOCKS)", BoundariesTest::ringLeastPlace);
    }

    public static void main(String[] args) {
        readDocument();
        terms();
        stepsAndDrifts();
        promisesOfPlaces();
        promisesOfHours();
        System.out.println("BoundariesTest: " + sentences + " sentences, " + asked + " answers, " + wrong + " not as due");
        if (wrong != 0) {
            System.exit(1);
        }
    }
}

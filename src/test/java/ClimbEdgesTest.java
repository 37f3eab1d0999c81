import java.util.Arrays;

/** Term 3, climbing: a test for each sentence that names an edge. */
public final class ClimbEdgesTest {
    private static final Due DUE = new Due("ClimbEdgesTest");
    private static final int NONE = SketchCache.NONE;
    private static final int STEP = 4;
    private static final int PERIOD = 5;

    /** Without a door, so that an estimate is just how often a key below 64 was added. */
    private static SketchCache climbing(int capacity, int window, int step, int period) {
        SketchCache x = new SketchCache(1, capacity, window);
        x.rule(0, 0);
        x.rule(STEP, step);
        x.rule(PERIOD, period);
        return x;
    }

    private static void window(String when, SketchCache x, int window, int direction) {
        DUE.is(when + ": W", x.about(0), window);
        DUE.is(when + ": direction", x.about(11), direction);
        DUE.is(when + ": sound", x.sound(), 1);
    }

    private static void period(String when, SketchCache x, int hits, int accesses, int hitsBefore) {
        DUE.is(when + ": hits in this period", x.about(12), hits);
        DUE.is(when + ": accesses in it", x.about(13), accesses);
        DUE.is(when + ": hits in the period before", x.about(14), hitsBefore);
    }

    /** A cache of 12 with a period of 5, in which 99 is there, and 50, above C, never is. */
    private static SketchCache withHits(int window, int step) {
        SketchCache x = climbing(12, window, 0, 5);
        x.size(50, 20);
        x.access(99);
        x.rule(STEP, step);
        return x;
    }

    /** Five accesses with so many hits, for the cache above. */
    private static void five(SketchCache x, int hits) {
        for (int i = 0; i < 5; i++) x.access(i < hits ? 99 : 50);
    }

    /** "if STEP is above 0", and about 12 and 13: "both 0 while STEP is 0". */
    private static void noStep() {
        SketchCache x = climbing(20, 5, 0, 5);
        for (int i = 0; i < 12; i++) {
            x.access(i % 2);
            period("STEP 0", x, 0, 0, 0);
        }
        window("STEP 0", x, 5, 1);
        x.rule(STEP, 1);
        x.run(0, 0, 4);
        period("STEP 1", x, 4, 4, 0);
        x.rule(STEP, 0);
        period("STEP 0 again", x, 0, 0, 0);
        x.run(0, 0, 20);
        period("STEP 0 again", x, 0, 0, 0);
        window("STEP 0 again", x, 5, 1);
    }

    /** "the STEP (0 .. 20)": the least that climbs, and the most. */
    private static void leastAndMostStep() {
        SketchCache least = climbing(50, 5, 1, 5);
        least.run(0, 1, 5);
        window("STEP 1", least, 6, 1);
        SketchCache most = climbing(50, 5, 20, 5);
        most.run(0, 1, 5);
        window("STEP 20", most, 25, 1);
    }

    /** "the PERIOD (5 .. 500)", 20 at first: it ends behind its last access, not one before. */
    private static void leastAndMostPeriod() {
        SketchCache least = climbing(50, 5, 1, 5);
        least.run(0, 0, 4);
        window("4 of 5", least, 5, 1);
        period("4 of 5", least, 3, 4, 0);
        least.access(0);
        window("5 of 5", least, 6, 1);
        period("5 of 5", least, 0, 0, 4);
        SketchCache first = new SketchCache(1, 50, 5);
        first.rule(STEP, 1);
        first.run(0, 0, 19);
        window("19 of 20", first, 5, 1);
        first.access(0);
        window("20 of 20", first, 6, 1);
        SketchCache most = climbing(50, 5, 1, 500);
        for (int i = 0; i < 4; i++) most.run(0, 0, 100);
        most.run(0, 0, 99);
        window("499 of 500", most, 5, 1);
        period("499 of 500", most, 498, 499, 0);
        most.access(0);
        window("500 of 500", most, 6, 1);
        period("500 of 500", most, 0, 0, 499);
    }

    /** Several periods end within one run. */
    private static void withinOneRun() {
        SketchCache x = climbing(50, 5, 3, 5);
        DUE.is("hits", x.run(0, 0, 14), 13);
        window("two periods", x, 11, 1);
        period("and four accesses", x, 4, 4, 5);
    }

    /** "anew from when STEP or PERIOD were told last, also as they were". */
    private static void countedAnew() {
        int[][] told = {{STEP, 3}, {STEP, 2}, {PERIOD, 10}, {PERIOD, 5}, {PERIOD, 8}};
        int[] due = {10, 10, 10, 5, 8};
        for (int i = 0; i < told.length; i++) {
            String when = "rule(" + told[i][0] + ", " + told[i][1] + ")";
            SketchCache x = climbing(50, 5, 3, 10);
            x.run(0, 0, 9);
            period("9 of 10", x, 8, 9, 0);
            x.rule(told[i][0], told[i][1]);
            period(when, x, 0, 0, 0);
            x.run(0, 0, due[i] - 1);
            window(when + ", one before", x, 5, 1);
            x.access(0);
            window(when + ", the last one", x, 5 + (told[i][0] == STEP ? told[i][1] : 3), 1);
        }
    }

    /** "the period before it (0 for the first one)", and about 14, "(0: none)", once the periods count anew. */
    private static void firstOneAnew() {
        int[][] told = {{STEP, 1}, {STEP, 2}, {PERIOD, 5}, {PERIOD, 6}};
        for (int[] t : told) {
            String when = "rule(" + t[0] + ", " + t[1] + ")";
            SketchCache x = withHits(2, 1);
            five(x, 3);
            period("the period before had 3", x, 0, 0, 3);
            x.rule(t[0], t[1]);
            period(when + ": none before", x, 0, 0, 0);
            x.run(50, 0, t[0] == PERIOD ? t[1] : 5);
            window(when + ": no hit is not fewer than 0", x, 3 + (t[0] == STEP ? t[1] : 1), 1);
        }
        SketchCache off = withHits(2, 1);
        five(off, 3);
        off.rule(STEP, 0);
        period("STEP 0", off, 0, 0, 0);
        off.rule(STEP, 1);
        five(off, 0);
        window("and 1 again", off, 4, 1);
        SketchCache kept = withHits(2, 1);
        five(kept, 3);
        DUE.is("a rule that is BAD", kept.rule(STEP, 21), SketchCache.BAD);
        period("the period before stays", kept, 0, 0, 3);
        five(kept, 2);
        window("fewer than 3", kept, 2, -1);
    }

    /** A rule that is BAD, or another rule, does not begin anything anew. */
    private static void notAnew() {
        SketchCache x = climbing(50, 5, 3, 10);
        x.run(0, 0, 9);
        DUE.is("STEP 21", x.rule(STEP, 21), SketchCache.BAD);
        DUE.is("STEP -1", x.rule(STEP, -1), SketchCache.BAD);
        DUE.is("PERIOD 4", x.rule(PERIOD, 4), SketchCache.BAD);
        DUE.is("PERIOD 501", x.rule(PERIOD, 501), SketchCache.BAD);
        for (int what = 0; what < 4; what++) x.rule(what, what == 2 ? 100 : 1);
        x.add(5);
        x.remove(5);
        DUE.is("a wrong access", x.access(100), SketchCache.BAD);
        period("as it was", x, 8, 9, 0);
        x.access(0);
        window("the last one of 10", x, 8, 1);
    }

    /** "if it had fewer hits than the period before it (0 for the first one)". */
    private static void fewerHits() {
        SketchCache none = withHits(2, 1);
        five(none, 0);
        window("a first period without a hit", none, 3, 1);
        five(none, 0);
        window("none again", none, 4, 1);
        SketchCache x = withHits(2, 1);
        five(x, 3);
        window("3 of 5", x, 3, 1);
        five(x, 3);
        window("as many", x, 4, 1);
        five(x, 4);
        window("one more", x, 5, 1);
        five(x, 3);
        window("one fewer", x, 4, -1);
        five(x, 3);
        window("as many", x, 3, -1);
        five(x, 5);
        window("more", x, 2, -1);
        five(x, 4);
        window("one fewer: the other direction again", x, 3, 1);
        period("behind it", x, 0, 0, 4);
        five(x, 0);
        window("none", x, 2, -1);
        period("behind it", x, 0, 0, 0);
        five(x, 0);
        window("none is not fewer than none", x, 1, -1);
    }

    /** The hit of the last access counts for the period that it ends. */
    private static void theLastAccessCounts() {
        SketchCache x = withHits(2, 1);
        five(x, 1);
        x.run(50, 0, 4);
        DUE.is("a hit at last", x.access(99) >= 2 ? 1 : 0, 1);
        window("1 is not fewer than 1", x, 4, 1);
        period("behind it", x, 0, 0, 1);
    }

    /** "C - 1 at most". */
    private static void mostWindow() {
        int[][] due = {{9, 10}, {10, 11}, {11, 11}};
        for (int[] d : due) {
            SketchCache x = withHits(d[0], 1);
            five(x, 0);
            window("W " + d[0] + " and 1", x, d[1], 1);
            DUE.is("P", x.about(1), (12 - d[1]) * 4 / 5);
        }
        SketchCache least = climbing(4, 1, 20, 5);
        least.run(0, 1, 5);
        window("20 more than 1 of 4", least, 3, 1);
        SketchCache most = climbing(200, 180, 20, 5);
        most.run(0, 1, 5);
        window("20 more than 180 of 200", most, 199, 1);
        SketchCache just = climbing(200, 179, 20, 5);
        just.run(0, 1, 5);
        window("20 more than 179 of 200", just, 199, 1);
    }

    /** "but 1 at least". */
    private static void leastWindow() {
        // The first period goes up by 2, the next ones, with fewer hits and then none, down by 2.
        int[][] due = {{4, 6, 4, 2, 1}, {3, 5, 3, 1, 1}, {1, 3, 1, 1, 1}};
        for (int[] d : due) {
            SketchCache x = withHits(d[0], 2);
            five(x, 1);
            window("up", x, d[1], 1);
            for (int i = 2; i < 5; i++) {
                five(x, 0);
                window("down from " + d[i - 1], x, d[i], -1);
            }
        }
        SketchCache y = climbing(200, 1, 20, 5);
        y.run(0, 0, 5);
        window("20 up", y, 21, 1);
        y.run(50, 1, 5);
        window("20 down", y, 1, -1);
    }

    /** "Then settling": protected just within the new P keeps all, one unit above it does not. */
    private static void settles() {
        for (int used = 6; used <= 7; used++) {
            SketchCache x = new SketchCache(1, 12, 2);
            x.run(0, 1, 10);
            x.run(0, 1, used);
            DUE.is("protected", x.about(4), used);
            x.rule(STEP, 2);
            x.rule(PERIOD, 5);
            x.run(9, 0, 5);
            DUE.is("P is 6", x.about(1), 6);
            DUE.is("protected then", x.about(4), 6);
            DUE.is("key 0", x.where(0), used == 6 ? 2 : 1);
        }
    }

    /** "as long as main has more than C - W units, its first VICTIM leaves it". */
    private static void mainShrinks() {
        for (int inMain = 7; inMain <= 10; inMain++) {
            SketchCache x = new SketchCache(1, 12, 2);
            x.run(0, 1, inMain + 2);
            DUE.is("in main", x.about(3), inMain);
            x.rule(STEP, 2);
            x.rule(PERIOD, 5);
            x.run(inMain + 1, 0, 5);
            DUE.is("C - W is 8: in main then", x.about(3), Math.min(8, inMain));
            int[] due = {inMain, inMain + 1, 0, 1};
            DUE.part("the first victims are the last ones of the window", x, 0, Arrays.copyOf(due, 2 + Math.max(0, inMain - 8)));
            DUE.is("none went out", x.about(10), 0);
        }
    }

    /** The only key of main leaves it, if it alone is more than C - W. */
    private static void onlyKeyOfMainLeaves() {
        SketchCache x = new SketchCache(1, 10, 5);
        x.size(0, 5);
        x.access(0);
        x.access(1);
        DUE.part("main is full", x, 1, 0);
        x.rule(STEP, 1);
        x.rule(PERIOD, 5);
        x.run(1, 0, 5);
        window("up", x, 6, 1);
        DUE.part("it has just room in the window", x, 0, 1, 0);
        DUE.part("main is empty", x, 1);
        DUE.is("none went out", x.about(10), 0);
    }

    /** What settles can leave main at once, so that protected itself never has to. */
    private static void settledKeysAreVictims() {
        SketchCache x = new SketchCache(1, 4, 1);
        x.run(0, 1, 3);
        x.run(0, 1, 2);
        DUE.part("probation is empty", x, 1);
        DUE.part("P is 2", x, 2, 0, 1);
        x.rule(STEP, 1);
        x.rule(PERIOD, 5);
        x.run(2, 0, 5);
        DUE.part("P is 1: one settles, main has 2 units: both stay", x, 1, 0);
        DUE.part("P is 1", x, 2, 1);
        x.run(2, 0, 5);
        window("C - 1", x, 3, 1);
        DUE.part("P is 0: 0 left main, and 1 settled", x, 1, 1);
        DUE.part("P is 0", x, 2);
        DUE.part("the last one of the window", x, 0, 2, 0);
        SketchCache y = new SketchCache(1, 10, 5);
        y.size(0, 4);
        y.size(9, 5);
        y.access(0);
        y.access(9);
        y.access(0);
        DUE.part("4 units of 5 are protected", y, 2, 0);
        y.rule(STEP, 1);
        y.rule(PERIOD, 5);
        y.run(9, 0, 5);
        DUE.is("main is 4, P is 3: it settles, and stays in main", y.where(0), 1);
    }

    /** "then overflowing": a large victim can be more than the window has room for. */
    private static void overflowsBehindIt() {
        for (int more = 0; more <= 1; more++) {
            SketchCache x = new SketchCache(1, 10, 2);
            x.rule(0, 0);
            x.size(0, 4);
            x.size(1, 4);
            x.run(0, 1, 4);
            DUE.part("main is full", x, 1, 0, 1);
            DUE.part("the window is full", x, 0, 2, 3);
            for (int i = 0; i < more; i++) x.add(0);
            x.rule(STEP, 1);
            x.rule(PERIOD, 5);
            x.run(3, 0, 5);
            window("up by one", x, 3, 1);
            // Main has 7 units now: 0 leaves it, drives 2 and 3 out of the window, and then itself.
            DUE.part("the window is empty", x, 0);
            DUE.part("0 against 1", x, 1, more == 1 ? new int[] {2, 3, 0} : new int[] {1, 2, 3});
            DUE.is("one went out", x.about(10), 1);
        }
    }

    /** The window's keys overflow when it shrinks: just W units stay. */
    private static void windowShrinks() {
        for (int inWindow = 4; inWindow <= 6; inWindow++) {
            SketchCache x = new SketchCache(1, 12, 4);
            x.rule(STEP, 2);
            x.rule(PERIOD, 20);
            x.run(0, 0, 20);
            window("up", x, 6, 1);
            x.run(1, 1, inWindow - 1);
            x.size(50, 20);
            x.run(50, 0, 20 - (inWindow - 1));
            window("down", x, 4, -1);
            DUE.is("units in the window", x.about(2), 4);
            DUE.is("units in main", x.about(3), inWindow - 4);
            DUE.is("the first one", x.where(0), inWindow == 4 ? 0 : 1);
        }
    }

    /** Promise 6: "a miss, and it is not there now", "where it was before; climbing may have moved it since". */
    private static void answersOfTheLastAccess() {
        SketchCache hit = climbing(4, 3, 2, 5);
        hit.run(0, 0, 5);
        window("C - 1", hit, 3, 1);
        hit.access(1);
        hit.access(2);
        hit.access(3);
        DUE.is("0 is in probation", hit.where(0), 1);
        hit.access(50);
        DUE.is("50 in the window", hit.where(50), 0);
        DUE.is("a hit in the window behind which it shrinks", hit.access(2), 2);
        window("down", hit, 1, -1);
        DUE.part("the window's last", hit, 0, 2);

        SketchCache miss = climbing(10, 5, 3, 5);
        miss.size(4, 6);
        miss.run(0, 0, 5);
        window("up", miss, 8, 1);
        miss.run(0, 0, 3);
        miss.access(1);
        DUE.is("6 units fit into 8, but neither into 5 nor, then, into main", miss.access(4), 0);
        window("down", miss, 5, -1);
        DUE.is("it is not there", miss.where(4), NONE);
        DUE.is("it went out", miss.about(10), 1);

        SketchCache small = climbing(10, 5, 3, 5);
        small.size(4, 5);
        small.run(0, 0, 5);
        small.run(0, 0, 3);
        small.access(1);
        DUE.is("5 units fit into 5", small.access(4), 1);
        DUE.part("alone", small, 0, 4);
    }

    /** An access of a key above C, and a key that goes out at once, count for the period, too. */
    private static void everyAccessCounts() {
        SketchCache x = climbing(12, 2, 1, 5);
        x.size(0, 13);
        x.size(1, 12);
        x.access(0);
        x.access(1);
        period("two", x, 0, 2, 0);
        x.run(0, 0, 3);
        window("five", x, 3, 1);
    }

    public static void main(String[] args) {
        noStep();
        leastAndMostStep();
        leastAndMostPeriod();
        withinOneRun();
        countedAnew();
        firstOneAnew();
        notAnew();
        fewerHits();
        theLastAccessCounts();
        mostWindow();
        leastWindow();
        settles();
        mainShrinks();
        onlyKeyOfMainLeaves();
        settledKeysAreVictims();
        overflowsBehindIt();
        windowShrinks();
        answersOfTheLastAccess();
        everyAccessCounts();
        DUE.end();
    }
}

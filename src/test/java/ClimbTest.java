/** Promises 4 (rules 4 and 5) and 15, and how access answers behind a period: the window that climbs. */
public final class ClimbTest {
    private static final Due DUE = new Due("ClimbTest");

    private static SketchCache climbing(int capacity, int window, int step, int period) {
        SketchCache x = new SketchCache(1, capacity, window);
        x.rule(4, step);
        x.rule(5, period);
        return x;
    }

    private static void period(String when, SketchCache x, int hits, int accesses, int hitsBefore) {
        DUE.is(when + ": hits in this period", x.about(12), hits);
        DUE.is(when + ": accesses in it", x.about(13), accesses);
        DUE.is(when + ": hits in the period before", x.about(14), hitsBefore);
    }

    private static void window(String when, SketchCache x, int window, int direction) {
        DUE.is(when + ": W", x.about(0), window);
        DUE.is(when + ": direction", x.about(11), direction);
    }

    private static void upAndDown() {
        SketchCache x = climbing(20, 5, 6, 5);
        x.run(0, 0, 4);
        period("four accesses", x, 3, 4, 0);
        window("within the first period", x, 5, 1);
        x.access(0);
        period("a period ended", x, 0, 0, 4);
        window("not fewer than none", x, 11, 1);
        DUE.is("P goes with W", x.about(1), 7);
        x.run(0, 0, 4);
        x.access(1);
        period("a second one", x, 0, 0, 4);
        window("as many as before", x, 17, 1);
        x.run(0, 0, 5);
        window("C - 1 at most", x, 19, 1);
        DUE.is("P of one unit", x.about(1), 0);
        x.run(2, 1, 5);
        window("fewer hits", x, 13, -1);
        x.run(2, 1, 5);
        window("more hits", x, 7, -1);
        x.run(2, 0, 5);
        window("1 at least", x, 1, -1);
        x.run(50, 1, 5);
        window("fewer hits again", x, 7, 1);
        DUE.is("sound", x.sound(), 1);
    }

    private static void withoutStep() {
        SketchCache x = new SketchCache(1, 20, 5);
        x.run(0, 0, 50);
        period("no step", x, 0, 0, 0);
        window("no step", x, 5, 1);
        x.rule(4, 1);
        x.run(0, 0, 19);
        period("counted from when the step was told", x, 19, 19, 0);
        x.access(0);
        window("the period of 20", x, 6, 1);
        x.rule(4, 0);
        period("no step any more", x, 0, 0, 0);
        x.run(0, 0, 40);
        period("no step any more", x, 0, 0, 0);
        window("no step any more", x, 6, 1);
    }

    private static void toldAnew() {
        for (int what = 4; what <= 5; what++) {
            SketchCache x = climbing(20, 5, 5, 5);
            x.run(0, 0, 5);
            window("a first period", x, 10, 1);
            x.run(0, 0, 3);
            period("a part of the second one", x, 3, 3, 4);
            DUE.is("told as it was", x.rule(what, 5), 5);
            period("anew", x, 0, 0, 0);
            x.run(10, 1, 4);
            window("not the end of the old period", x, 10, 1);
            x.access(14);
            window("0 hits are not fewer than none: it is the first one", x, 15, 1);
            x.run(14, 0, 5);
            x.run(30, 1, 5);
            window("the direction", x, 14, -1);
            x.rule(what, 5);
            window("the direction stays", x, 14, -1);
            x.run(0, 0, 3);
            DUE.is("a wrong rule", x.rule(4, 21) + x.rule(5, 4), 2 * SketchCache.BAD);
            DUE.is("does not begin anew", x.about(13), 3);
        }
    }

    private static void keysMove() {
        SketchCache x = climbing(10, 2, 3, 10);
        x.rule(3, 2);
        x.run(0, 1, 10);
        DUE.part("main shrank: its first victims", x, 0, 8, 9, 0, 1, 2);
        DUE.part("main shrank", x, 1, 3, 4, 5, 6, 7);
        x.run(0, 0, 10);
        DUE.part("main shrank again", x, 0, 8, 9, 1, 2, 0, 3, 4, 5);
        DUE.part("main shrank again", x, 1, 6, 7);
        x.run(20, 1, 10);
        window("fewer hits", x, 5, -1);
        DUE.part("the window shrank: overflowing", x, 0, 25, 26, 27, 28, 29);
        DUE.part("the window shrank", x, 1, 20, 21, 22, 23, 24);
        DUE.is("out", x.about(10), 10);
    }

    private static void settlesByTheNewP() {
        SketchCache x = new SketchCache(1, 12, 2);
        x.run(0, 1, 10);
        x.run(0, 1, 8);
        DUE.part("protected of 8", x, 2, 0, 1, 2, 3, 4, 5, 6, 7);
        x.rule(4, 2);
        x.rule(5, 5);
        x.run(8, 0, 5);
        DUE.part("P is 6: two settle, and have room in main", x, 2, 2, 3, 4, 5, 6, 7);
        DUE.part("P is 6", x, 1, 0, 1);
        x.run(8, 0, 5);
        DUE.part("P is 4", x, 2, 4, 5, 6, 7);
        DUE.part("P is 4, main 6", x, 1, 2, 3);
        DUE.part("the first victims", x, 0, 9, 8, 0, 1);
    }

    private static void outBehindTheAccess() {
        SketchCache x = climbing(10, 5, 3, 5);
        x.size(4, 6);
        x.run(0, 0, 5);
        window("up", x, 8, 1);
        x.run(5, 1, 4);
        DUE.is("a miss that the window is too small for then", x.access(4), 0);
        window("down", x, 5, -1);
        DUE.is("6, which had no room, and 4", x.about(10), 2);
        DUE.is("sound", x.sound(), 1);
        SketchCache y = climbing(10, 5, 4, 5);
        y.size(4, 6);
        y.run(0, 0, 5);
        y.run(4, 0, 10);
        window("up", y, 9, 1);
        y.run(50, 0, 4);
        DUE.is("a hit where it was before", y.access(4), 2);
        window("down", y, 5, -1);
        DUE.is("it went out since", y.where(4), SketchCache.NONE);
    }

    private static void largeKeysCount() {
        SketchCache x = climbing(10, 5, 1, 5);
        x.size(0, 20);
        x.run(0, 0, 5);
        window("accesses of a key above C", x, 6, 1);
    }

    public static void main(String[] args) {
        upAndDown();
        withoutStep();
        toldAnew();
        keysMove();
        settlesByTheNewP();
        outBehindTheAccess();
        largeKeysCount();
        DUE.end();
    }
}

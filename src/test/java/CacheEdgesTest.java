/** Term 2, the cache and its parts: a test for each sentence that names an edge. */
public final class CacheEdgesTest {
    private static final Due DUE = new Due("CacheEdgesTest");
    private static final int NONE = SketchCache.NONE;
    private static final int EACH = 0;
    private static final int SUM = 1;
    private static final int ALWAYS = 2;

    /** Without a door, so that an estimate is just how often a key below 64 was added. */
    private static SketchCache cache(int capacity, int window, int mode) {
        SketchCache x = new SketchCache(1, capacity, window);
        x.rule(0, 0);
        x.rule(3, mode);
        return x;
    }

    private static void add(SketchCache x, int key, int times) {
        for (int i = 0; i < times; i++) x.add(key);
    }

    /** The numbers from one to another, both of them too. */
    private static int[] keys(int from, int to) {
        int[] keys = new int[to - from + 1];
        for (int i = 0; i < keys.length; i++) keys[i] = from + i;
        return keys;
    }

    /** "four fifths of C - W, cut off". */
    private static void fourFifths() {
        int[][] due = {
            {4, 3, 0}, {4, 2, 1}, {4, 1, 2}, {5, 1, 3}, {6, 1, 4}, {7, 1, 4}, {10, 1, 7}, {11, 1, 8},
            {200, 1, 159}, {200, 100, 80}, {200, 199, 0}};
        for (int[] d : due) DUE.is("P of " + d[0] + " less " + d[1], cache(d[0], d[1], EACH).about(1), d[2]);
    }

    /** P of 0: a hit in probation settles back at once. */
    private static void nothingProtected() {
        SketchCache x = cache(4, 3, EACH);
        x.run(0, 1, 4);
        for (int i = 0; i < 2; i++) {
            DUE.is("a hit in probation, each time", x.access(0), 3);
            DUE.part("settled", x, 1, 0);
            DUE.part("settled", x, 2);
            DUE.is("units", x.about(3) * 10 + x.about(4), 10);
        }
    }

    /** "in the window, in protected it becomes the last one there": of the first, the middle and the last. */
    private static void becomesTheLast() {
        SketchCache x = cache(20, 3, EACH);
        x.run(0, 1, 3);
        DUE.is("the last of the window", x.access(2), 2);
        DUE.part("as it was", x, 0, 0, 1, 2);
        DUE.is("the first of the window", x.access(0), 2);
        DUE.part("turned", x, 0, 1, 2, 0);
        DUE.is("the middle of the window", x.access(2), 2);
        DUE.part("the last one", x, 0, 1, 0, 2);
        x.run(10, 1, 3);
        x.access(0);
        x.access(1);
        x.access(2);
        DUE.part("of probation, as they were used", x, 2, 0, 1, 2);
        DUE.is("the last of protected", x.access(2), 4);
        DUE.part("as it was", x, 2, 0, 1, 2);
        DUE.is("the middle of protected", x.access(1), 4);
        DUE.part("the last one", x, 2, 0, 2, 1);
        DUE.is("the first of protected", x.access(0), 4);
        DUE.part("turned", x, 2, 2, 1, 0);
        DUE.part("a single key", lone(), 0, 7);
    }

    private static SketchCache lone() {
        SketchCache x = cache(4, 1, EACH);
        x.run(7, 0, 3);
        DUE.is("hits of a single key", x.about(9), 2);
        return x;
    }

    /** "as long as protected has more than P units, its first becomes the last one of probation". */
    private static void settlesAboveP() {
        SketchCache x = cache(10, 5, EACH);
        x.run(0, 1, 10);
        x.run(0, 1, 4);
        DUE.part("just P units stay", x, 2, 0, 1, 2, 3);
        DUE.part("just P units stay", x, 1, 4);
        DUE.is("one more", x.access(4), 3);
        DUE.part("one settles", x, 2, 1, 2, 3, 4);
        DUE.part("one settles", x, 1, 0);
    }

    private static void severalSettle() {
        SketchCache x = cache(20, 5, EACH);
        x.size(12, 3);
        x.size(13, 5);
        x.run(0, 1, 14);
        DUE.part("main is full to the unit", x, 1, 0, 1, 2, 3, 4, 5, 6, 7, 8, 9, 10, 11, 12);
        x.run(0, 1, 12);
        DUE.is("protected is full to the unit", x.about(4), 12);
        DUE.is("three units more", x.access(12), 3);
        DUE.part("three settle, in their order", x, 1, 0, 1, 2);
        DUE.part("three settle", x, 2, 3, 4, 5, 6, 7, 8, 9, 10, 11, 12);
    }

    private static void largerThanP() {
        SketchCache x = cache(20, 10, EACH);
        x.size(0, 9);
        x.size(2, 10);
        x.run(0, 1, 3);
        x.access(1);
        DUE.part("one unit is protected", x, 2, 1);
        DUE.is("nine units, P is 8", x.access(0), 3);
        DUE.part("the other one settles first, then it does", x, 1, 1, 0);
        DUE.part("the other one settles first, then it does", x, 2);
    }

    /** "if its size is above C, nothing more", and about 10: "but not those above C". */
    private static void aboveC() {
        for (int c : new int[] {4, 10, 19}) {
            for (int mode = 0; mode < 3; mode++) {
                SketchCache x = cache(c, 1, mode);
                x.run(0, 1, c);
                x.size(50, c + 1);
                DUE.is("size C + 1", x.access(50), 0);
                DUE.is("not out", x.about(10), 0);
                DUE.is("an access, in the trace, and added", x.about(8) + x.about(15) + x.about(6), 3 * c + 3);
                DUE.is("its estimate", x.estimate(50), 1);
                DUE.part("main as it was", x, 1, keys(0, c - 2));
                x.size(50, c);
                DUE.is("size C", x.access(50), 0);
                DUE.is("out, as it is above C - W", x.about(10), 1);
                DUE.part("main as it was", x, 1, keys(0, c - 2));
                DUE.part("the window as it was", x, 0, c - 1);
            }
        }
        SketchCache largest = cache(20, 19, ALWAYS);
        largest.size(50, 20);
        DUE.is("size 20 of C 20", largest.access(50), 0);
        DUE.is("out", largest.about(10), 1);
        SketchCache wide = cache(200, 1, ALWAYS);
        wide.size(50, 20);
        DUE.is("no size is above 200", wide.access(50), 1);
    }

    /** "If it is above W, it is a CANDIDATE at once; otherwise it becomes the last one of the window". */
    private static void aboveW() {
        SketchCache x = cache(10, 3, EACH);
        x.run(0, 1, 3);
        x.size(50, 3);
        DUE.is("just W", x.access(50), 1);
        DUE.part("it has the window alone", x, 0, 50);
        DUE.part("all others left it", x, 1, 0, 1, 2);
        x.size(51, 4);
        DUE.is("one more", x.access(51), 1);
        DUE.part("the window as it was", x, 0, 50);
        DUE.part("it came into main at once", x, 1, 0, 1, 2, 51);
        SketchCache empty = cache(10, 3, EACH);
        empty.size(51, 4);
        empty.access(51);
        DUE.part("an empty window stays empty", empty, 0);
        DUE.part("an empty main takes it", empty, 1, 51);
        DUE.is("a hit there", empty.access(51), 3);
    }

    /** All keys that there are, in one part. */
    private static void allKeysInTheWindow() {
        SketchCache x = cache(200, 199, EACH);
        DUE.is("no hits", x.run(0, 1, 100), 0);
        DUE.part("a hundred", x, 0, keys(0, 99));
        DUE.is("the last one", x.access(99), 2);
        DUE.part("as it was", x, 0, keys(0, 99));
        DUE.is("the first one", x.access(0), 2);
        DUE.is("is the last one", x.key(0, 98) * 100 + x.key(0, 99), 9900);
        DUE.is("keys", x.about(5), 100);
        DUE.is("sound", x.sound(), 1);
        DUE.is("the last one", x.remove(0), 0);
        DUE.part("it left", x, 0, keys(1, 99));
        DUE.is("and comes again", x.access(0), 1);
        DUE.is("as the last one", x.key(0, 99), 0);
        DUE.is("none is behind it", x.key(0, 100), NONE);
    }

    private static void allKeysProtected() {
        SketchCache x = cache(200, 1, EACH);
        x.run(0, 1, 100);
        DUE.part("all but the latest", x, 1, keys(0, 98));
        DUE.is("all are hits", x.run(0, 1, 99), 99);
        DUE.part("then they are protected", x, 2, keys(0, 98));
        DUE.is("the last one", x.remove(98), 2);
        DUE.part("it left", x, 2, keys(0, 97));
        DUE.is("sound", x.sound(), 1);
    }

    /** "as long as that has more than W units, its first leaves it". */
    private static void overflows() {
        SketchCache x = cache(10, 4, EACH);
        x.size(0, 2);
        x.run(0, 1, 3);
        DUE.part("just W units stay", x, 0, 0, 1, 2);
        DUE.is("units", x.about(2), 4);
        x.access(3);
        DUE.part("one more: the first leaves, which has two", x, 0, 1, 2, 3);
        DUE.is("units", x.about(2) * 10 + x.about(3), 32);
        x.size(4, 4);
        x.access(4);
        DUE.part("three leave", x, 0, 4);
        DUE.part("in their order", x, 1, 0, 1, 2, 3);
        SketchCache y = cache(10, 7, ALWAYS);
        y.size(0, 4);
        y.size(1, 7);
        y.access(0);
        DUE.is("a miss that is there", y.access(1), 1);
        DUE.is("what left the window is above C - W", y.where(0), NONE);
        DUE.is("so it is out", y.about(10), 1);
    }

    /** "Above C - W: out." */
    private static void aboveMain() {
        int[] answer = {1, 0, 1};
        int[] outs = {8, 2, 8};
        for (int mode = 0; mode < 3; mode++) {
            SketchCache x = cache(10, 3, mode);
            x.run(0, 1, 10);
            x.size(50, 8);
            DUE.is("C - W + 1", x.access(50), 0);
            DUE.part("no victim is looked at", x, 1, keys(0, 6));
            DUE.is("out", x.about(10), 1);
            x.size(50, 7);
            DUE.is("C - W, mode " + mode, x.access(50), answer[mode]);
            DUE.is("out, mode " + mode, x.about(10), outs[mode]);
            DUE.part("main, mode " + mode, x, 1, mode == SUM ? keys(0, 6) : new int[] {50});
        }
    }

    /** "If main has room for it, it becomes the last one of probation." */
    private static void roomInMain() {
        for (int mode = 0; mode < 3; mode++) {
            SketchCache x = cache(10, 3, mode);
            x.run(0, 1, 6);
            add(x, 0, 9);
            x.size(50, 4);
            DUE.is("room to the unit", x.access(50), 1);
            DUE.part("whatever the estimates are", x, 1, 0, 1, 2, 50);
            DUE.is("none out", x.about(10), 0);
        }
        SketchCache y = cache(10, 3, EACH);
        y.run(0, 1, 6);
        y.size(50, 5);
        DUE.is("one unit is lacking, 1 against 1", y.access(50), 0);
        DUE.part("as it was", y, 1, 0, 1, 2);
        DUE.is("2 against 1", y.access(50), 1);
        DUE.part("one unit is enough", y, 1, 1, 2, 50);
        DUE.is("out", y.about(10), 2);
    }

    /** "probation from its first on, then protected likewise", with an empty probation too. */
    private static void victimsInOrder() {
        SketchCache both = cache(6, 1, ALWAYS);
        both.run(0, 1, 6);
        both.run(0, 1, 3);
        both.size(50, 3);
        DUE.is("three victims", both.access(50), 1);
        DUE.part("two of probation", both, 1, 50);
        DUE.part("one of protected", both, 2, 1, 2);
        for (int mode = 0; mode < 3; mode++) {
            SketchCache x = cache(6, 1, mode);
            x.run(0, 1, 5);
            x.run(0, 1, 4);
            DUE.part("probation is empty", x, 1);
            x.size(50, 2);
            DUE.is("mode " + mode, x.access(50), mode == ALWAYS ? 1 : 0);
            DUE.part("1 against 2", x, 2, mode == EACH ? keys(0, 3) : mode == SUM ? new int[] {1, 2, 3, 0} : keys(1, 3));
            if (mode != ALWAYS) {
                x.access(50);
                DUE.is("3 against 2", x.access(50), 1);
                int[] left = mode == EACH ? new int[] {1, 2, 3} : new int[] {3, 0, 1};
                DUE.part("protected's first went out", x, 2, left);
                DUE.part("it is of probation then", x, 1, 50);
            }
        }
    }

    /** "MODE 0: .. if the candidate's estimate is above that of the victim, this goes out". */
    private static void modeEach() {
        SketchCache x = cache(6, 1, EACH);
        x.run(0, 1, 6);
        x.size(50, 2);
        DUE.is("1 is not above 1", x.access(50), 0);
        DUE.part("as it was", x, 1, 0, 1, 2, 3, 4);
        x.add(1);
        DUE.is("2 is above 1, but not above 2", x.access(50), 0);
        DUE.part("what went out before stays out", x, 1, 1, 2, 3, 4);
        DUE.is("out", x.about(10), 3);
        x.access(51);
        DUE.part("the next candidate has its room", x, 1, 1, 2, 3, 4, 5);
        DUE.is("out", x.about(10), 3);
        DUE.is("3 is above 2 and 1", x.access(50), 1);
        DUE.part("both went out", x, 1, 3, 4, 5, 50);
    }

    /** "as long as there is no room": a large victim is enough, however strong the next one is. */
    private static void modeEachStopsWithRoom() {
        SketchCache x = cache(10, 1, EACH);
        x.size(0, 5);
        x.run(0, 1, 6);
        DUE.part("main is full", x, 1, 0, 1, 2, 3, 4);
        add(x, 1, 9);
        x.size(50, 5);
        x.add(50);
        DUE.is("2 against 1", x.access(50), 1);
        DUE.part("just one went out", x, 1, 1, 2, 3, 4, 50);
        DUE.is("just one", x.about(10), 1);
    }

    /** "MODE 1: .. if the candidate's estimate is above the sum of theirs". */
    private static void modeSum() {
        SketchCache x = cache(6, 1, SUM);
        x.run(0, 1, 6);
        x.size(50, 2);
        DUE.is("1 is not above 2", x.access(50), 0);
        DUE.part("these become the last ones", x, 1, 2, 3, 4, 0, 1);
        DUE.is("2 is not above 2", x.access(50), 0);
        DUE.part("these become the last ones", x, 1, 4, 0, 1, 2, 3);
        DUE.is("3 is above 2", x.access(50), 1);
        DUE.part("all these go out", x, 1, 1, 2, 3, 50);
        DUE.is("out", x.about(10), 4);
    }

    /** "if not, it goes out": no victim does, though the first one alone would be beaten. */
    private static void modeSumIsAllOrNone() {
        SketchCache x = cache(6, 1, SUM);
        x.run(0, 1, 6);
        add(x, 1, 1);
        x.size(50, 2);
        x.add(50);
        DUE.is("2 is above 1, but not above 1 and 2", x.access(50), 0);
        DUE.part("both are spared", x, 1, 2, 3, 4, 0, 1);
        DUE.is("just the candidate went out", x.about(10), 1);
    }

    /** "of the victims as few as would make room". */
    private static void modeSumTakesAsFew() {
        SketchCache x = cache(10, 1, SUM);
        x.size(0, 5);
        x.run(0, 1, 6);
        x.size(50, 5);
        DUE.is("1 against the 1 of a single one", x.access(50), 0);
        DUE.part("just one was looked at", x, 1, 1, 2, 3, 4, 0);
        DUE.is("2 against the 5 of all five", x.access(50), 0);
        DUE.part("all were looked at", x, 1, 1, 2, 3, 4, 0);
        x.remove(4);
        DUE.is("3 against the 4 of four", x.access(50), 0);
        DUE.part("all were looked at", x, 1, 1, 2, 3, 0);
        x.remove(3);
        x.remove(2);
        DUE.is("4 against 2: the first one alone would not make room", x.access(50), 1);
        DUE.part("both went out", x, 1, 50);
    }

    /** "each the last one of the part that it is in": of both parts at once. */
    private static void modeSumSparesInBothParts() {
        SketchCache x = cache(6, 1, SUM);
        x.run(0, 1, 6);
        x.run(0, 1, 3);
        x.size(50, 3);
        DUE.is("1 against 4", x.access(50), 0);
        DUE.part("all of probation, in their order", x, 1, 3, 4);
        DUE.part("the first of protected", x, 2, 1, 2, 0);
        DUE.is("out", x.about(10), 1);
    }

    /** Estimates of 0 on both sides: 0 is not above 0, but mode 2 does not ask. */
    private static void estimatesOfZero() {
        for (int mode = 0; mode < 3; mode++) {
            SketchCache x = cache(4, 1, mode);
            x.run(0, 1, 4);
            x.rule(2, 10);
            add(x, 50, 6);
            DUE.is("0 against 0", x.estimate(3) * 10 + x.estimate(0), 0);
            DUE.is("a miss", x.access(60), 1);
            DUE.is("the candidate, mode " + mode, x.where(3), mode == ALWAYS ? 1 : NONE);
            DUE.is("the victim, mode " + mode, x.where(0), mode == ALWAYS ? NONE : 1);
            DUE.is("one went out", x.about(10), 1);
            DUE.is("another miss", x.access(61), 1);
            DUE.is("1 against 0, mode " + mode, x.where(60), 1);
        }
    }

    /** "MODE 2: .. each victim goes out, whatever the estimates are". */
    private static void modeAlways() {
        SketchCache x = cache(6, 1, ALWAYS);
        x.run(0, 1, 6);
        add(x, 0, 20);
        x.access(60);
        DUE.part("1 against 15", x, 1, 1, 2, 3, 4, 5);
        DUE.is("just one went out", x.about(10), 1);
    }

    /** Parts that remove has emptied have all their room again, and nothing went out. */
    private static void nothingThere() {
        SketchCache x = cache(6, 1, EACH);
        x.run(0, 1, 6);
        for (int key = 0; key < 6; key++) x.remove(key);
        for (int what = 2; what <= 5; what++) DUE.is("about(" + what + ")", x.about(what), 0);
        DUE.is("none out", x.about(10), 0);
        x.size(50, 5);
        DUE.is("an emptied main takes what fills it", x.access(50), 1);
        DUE.is("an emptied window, too", x.access(0), 1);
        DUE.is("full", x.about(2) * 10 + x.about(3), 15);
    }

    public static void main(String[] args) {
        fourFifths();
        nothingProtected();
        becomesTheLast();
        settlesAboveP();
        severalSettle();
        largerThanP();
        aboveC();
        aboveW();
        allKeysInTheWindow();
        allKeysProtected();
        overflows();
        aboveMain();
        roomInMain();
        victimsInOrder();
        modeEach();
        modeEachStopsWithRoom();
        modeSum();
        modeSumIsAllOrNone();
        modeSumTakesAsFew();
        modeSumSparesInBothParts();
        estimatesOfZero();
        modeAlways();
        nothingThere();
        DUE.end();
    }
}

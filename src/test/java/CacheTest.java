/** Promises 4 (rule 3), 5, 6, 7, 12, 13, 14 and 15: the window, the two parts of main, and the three modes. */
public final class CacheTest {
    private static final Due DUE = new Due("CacheTest");
    private static final int BAD = SketchCache.BAD;
    private static final int NONE = SketchCache.NONE;

    /** Main has 8 units: 0 .. 7, all in probation; the window has 8 and 9; each was added once. */
    private static SketchCache full(int mode) {
        SketchCache x = new SketchCache(1, 10, 2);
        x.rule(0, 0);
        x.rule(3, mode);
        x.run(0, 1, 10);
        x.size(10, 4);
        return x;
    }

    private static void partsByUse() {
        SketchCache x = new SketchCache(1, 8, 2);
        for (int key = 0; key < 4; key++) {
            DUE.is("a miss that is there", x.access(key), 1);
        }
        DUE.part("four misses", x, 0, 2, 3);
        DUE.part("four misses", x, 1, 0, 1);
        DUE.is("hit in probation", x.access(0), 3);
        DUE.is("hit in probation", x.access(1), 3);
        DUE.is("hit in protected", x.access(0), 4);
        DUE.part("the hit is the last one", x, 2, 1, 0);
        DUE.is("hit in the window", x.access(2), 2);
        DUE.part("the hit is the last one", x, 0, 3, 2);
        x.access(4);
        DUE.part("the window's first left", x, 0, 2, 4);
        DUE.part("and has room in main", x, 1, 3);
        x.access(3);
        x.access(5);
        x.access(2);
        x.access(6);
        DUE.part("protected is full", x, 2, 1, 0, 3, 2);
        DUE.is("hit in probation", x.access(4), 3);
        DUE.part("settled", x, 2, 0, 3, 2, 4);
        DUE.part("settled", x, 1, 1);
        x.access(7);
        x.access(8);
        DUE.part("a candidate without room does not beat an estimate of 2", x, 1, 1, 5);
        DUE.is("it is out", x.where(6), NONE);
        int[] due = {2, 4, 2, 2, 4, 8, 16, 0, 16, 7, 1, 1, 0, 0, 0, 16};
        for (int what = 0; what < due.length; what++) {
            DUE.is("about(" + what + ")", x.about(what), due[what]);
        }
    }

    private static void modeEach() {
        SketchCache x = full(0);
        DUE.is("not above an equal estimate", x.access(10), 0);
        DUE.part("mode 0, equal", x, 1, 0, 1, 2, 3, 4, 5, 6, 7);
        x.add(1);
        x.add(1);
        x.add(1);
        DUE.is("beats 0, but not 1", x.access(10), 0);
        DUE.part("what went out before stays out", x, 1, 1, 2, 3, 4, 5, 6, 7);
        DUE.is("0 and, twice, 10 went out", x.about(10), 3);
        x.run(10, 0, 3);
        DUE.is("beats them all now", x.where(10), 1);
        DUE.part("the last one of probation", x, 1, 4, 5, 6, 7, 10);
        DUE.is("out", x.about(10), 8);
    }

    private static void modeSum() {
        SketchCache x = full(1);
        DUE.is("1 against 4", x.access(10), 0);
        DUE.part("spared victims become the last ones", x, 1, 4, 5, 6, 7, 0, 1, 2, 3);
        x.access(10);
        x.access(10);
        DUE.is("4 is not above 4", x.access(10), 0);
        DUE.part("spared victims become the last ones", x, 1, 0, 1, 2, 3, 4, 5, 6, 7);
        DUE.is("only 10 went out", x.about(10), 4);
        DUE.is("5 against 4", x.access(10), 1);
        DUE.part("all of them go out", x, 1, 4, 5, 6, 7, 10);
        DUE.is("out", x.about(10), 8);
        SketchCache y = full(1);
        y.run(0, 1, 6);
        DUE.part("before", y, 2, 0, 1, 2, 3, 4, 5);
        DUE.is("1 against 6", y.access(10), 0);
        DUE.part("each in the part that it is in", y, 1, 6, 7);
        DUE.part("each in the part that it is in", y, 2, 2, 3, 4, 5, 0, 1);
    }

    private static void modeAlways() {
        SketchCache x = full(2);
        x.run(0, 1, 6);
        DUE.is("the estimates do not matter", x.access(10), 1);
        DUE.part("first probation, then protected", x, 1, 10);
        DUE.part("first probation, then protected", x, 2, 2, 3, 4, 5);
        DUE.is("out", x.about(10), 4);
    }

    private static void roomForEstimateZero() {
        for (int mode = 0; mode < 3; mode++) {
            SketchCache x = new SketchCache(1, 10, 1);
            x.rule(3, mode);
            x.rule(2, 10);
            x.run(50, 1, 8);
            DUE.is("one in the window", x.access(0), 1);
            DUE.is("the add that ages", x.access(1), 1);
            DUE.is("estimate of the candidate", x.estimate(0), 0);
            DUE.is("it has room", x.where(0), 1);
        }
    }

    private static void sizes() {
        SketchCache x = new SketchCache(1, 10, 3);
        DUE.is("size of key 50", x.size(50, 11), 1);
        DUE.is("above C", x.access(50), 0);
        DUE.is("not counted as out", x.about(10), 0);
        DUE.is("but as an access", x.about(8) * 100 + x.about(15) * 10 + x.about(6), 111);
        DUE.is("size of key 50 now", x.size(50, 8), 11);
        DUE.is("above C - W", x.access(50), 0);
        DUE.is("counted as out", x.about(10), 1);
        x.size(50, 7);
        DUE.is("just C - W", x.access(50), 1);
        DUE.is("at once in main", x.where(50), 1);
        x.size(51, 3);
        DUE.is("just W", x.access(51), 1);
        DUE.is("in the window", x.where(51), 0);
        DUE.is("a key that is there", x.size(51, 3), SketchCache.REFUSED);
        DUE.is("a wrong size comes first", x.size(51, 0), BAD);
        DUE.is("size 21", x.size(52, 21), BAD);
        DUE.is("size 20", x.size(52, 20), 1);
        DUE.is("size of key -1", x.size(-1, 1), BAD);
        DUE.is("size of key 100", x.size(100, 1), BAD);
        DUE.is("above P: protected for no longer than settling", x.access(50), 3);
        DUE.part("above P", x, 1, 50);
        DUE.is("units", x.about(2) * 100 + x.about(3) * 10 + x.about(4), 370);
        DUE.is("keys", x.about(5), 2);
    }

    private static void severalLeave() {
        SketchCache x = new SketchCache(1, 20, 5);
        x.size(0, 2);
        x.size(1, 2);
        x.size(2, 5);
        x.run(0, 1, 3);
        DUE.part("overflowing", x, 0, 2);
        DUE.part("overflowing", x, 1, 0, 1);
    }

    private static void removing() {
        SketchCache x = new SketchCache(1, 8, 2);
        x.run(0, 1, 5);
        x.access(1);
        DUE.is("of the window", x.remove(3), 0);
        DUE.is("of probation", x.remove(0), 1);
        DUE.is("of protected", x.remove(1), 2);
        DUE.is("not there any more", x.remove(1), NONE);
        DUE.is("never there", x.remove(99), NONE);
        DUE.is("no such key", x.remove(-1), BAD);
        DUE.is("no such key", x.remove(100), BAD);
        DUE.is("not counted as out", x.about(10), 0);
        DUE.is("keys", x.about(5), 2);
        DUE.part("what stays", x, 0, 4);
        DUE.part("what stays", x, 1, 2);
        DUE.part("what stays", x, 2);
        DUE.is("its size may be told again", x.size(1, 2), 1);
        DUE.is("a miss again", x.access(1), 1);
    }

    private static void looking() {
        SketchCache x = new SketchCache(1, 8, 2);
        x.run(0, 1, 3);
        x.access(0);
        DUE.is("where in the window", x.where(1), 0);
        DUE.is("where in protected", x.where(0), 2);
        DUE.is("where: not there", x.where(3), NONE);
        DUE.is("where(-1)", x.where(-1), BAD);
        DUE.is("where(100)", x.where(100), BAD);
        DUE.is("key(0, -1)", x.key(0, -1), NONE);
        DUE.is("key(0, 2)", x.key(0, 2), NONE);
        DUE.is("key(1, 0)", x.key(1, 0), NONE);
        DUE.is("key(-1, 0)", x.key(-1, 0), BAD);
        DUE.is("key(3, 0)", x.key(3, 0), BAD);
        DUE.is("about(-1)", x.about(-1), BAD);
        DUE.is("about(16)", x.about(16), BAD);
        DUE.is("access(-1)", x.access(-1), BAD);
        DUE.is("access(100)", x.access(100), BAD);
        DUE.is("a wrong access is none", x.about(8) * 10 + x.about(15), 44);
    }

    private static void runs() {
        SketchCache x = new SketchCache(1, 100, 10);
        DUE.is("over the end", x.run(98, 1, 4), 0);
        int[] due = {98, 99, 0, 1};
        for (int i = 0; i < due.length; i++) {
            DUE.is("trace(" + i + ")", x.trace(i), due[i]);
        }
        DUE.is("one key", x.run(3, 0, 5), 4);
        DUE.is("two keys, in turns", x.run(50, 50, 4), 3);
        DUE.is("a hundred", x.run(99, 99, 100), 6);
        DUE.is("accesses", x.about(8), 113);
        DUE.is("hits", x.about(9), 13);
        DUE.is("key -1", x.run(-1, 1, 1), BAD);
        DUE.is("key 100", x.run(100, 1, 1), BAD);
        DUE.is("step -1", x.run(0, -1, 1), BAD);
        DUE.is("step 100", x.run(0, 100, 1), BAD);
        DUE.is("n 0", x.run(0, 1, 0), BAD);
        DUE.is("n 101", x.run(0, 1, 101), BAD);
        DUE.is("wrong runs are none", x.about(8), 113);
    }

    public static void main(String[] args) {
        partsByUse();
        modeEach();
        modeSum();
        modeAlways();
        roomForEstimateZero();
        sizes();
        severalLeave();
        removing();
        looking();
        runs();
        DUE.end();
    }
}
